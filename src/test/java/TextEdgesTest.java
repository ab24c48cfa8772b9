/** THE TEXT at its edges: cut off at each place, and with each sign at each place. */
public final class TextEdgesTest {
    private static final String ALL_KINDS = "+034;-00;+177;m0;c1;u;z1";

    public static void main(String[] args) {
        cutOff();
        eachSignAtEachPlace();
        digitsOfAClause();
        faultChangesNothing();
        refusedOnesAreNotDone();
        emptyBehindAll();
        Due.end("TextEdgesTest");
    }

    private static boolean isDigit(char sign) {
        return sign >= '0' && sign <= '9';
    }

    private static int lengthOf(char kind) {
        return switch (kind) {
            case '+' -> 4;
            case '-' -> 3;
            case 'z', 'c', 'm' -> 2;
            case 'u' -> 1;
            default -> 0;
        };
    }

    /** The FAULT of a text from a CLAUSE on, below 0 if there is none; so many CLAUSES stand ahead of that one. */
    private static int fault(String text, int from, int clauses) {
        String rest = text.substring(from);
        if (rest.isEmpty() || lengthOf(rest.charAt(0)) == 0) {
            return from;
        }
        int length = lengthOf(rest.charAt(0));
        for (int i = 1; i < length; i++) {
            if (i >= rest.length() || !isDigit(rest.charAt(i))) {
                return from + i;
            }
        }
        if (rest.length() == length) {
            return -1;
        }
        return rest.charAt(length) != ';' || clauses == 11 ? from + length : fault(text, from + length + 1, clauses + 1);
    }

    private static void faultIs(String text) {
        TermIdeals x = new TermIdeals();
        int fault = fault(text, 0, 0);
        int answer = Due.read(x, text);
        if (fault >= 0) {
            Due.is("FAULT of '" + text + "'", answer, -10 - fault);
            Due.is("by a FAULT none is done", x.count(4), 0);
        } else {
            Due.is("no FAULT in '" + text + "', answered " + answer, answer >= 0 ? 1 : 0, 1);
        }
        Due.is("THE TEXT is empty then", x.count(3), 0);
    }

    private static void cutOff() {
        for (int end = 0; end <= ALL_KINDS.length(); end++) {
            faultIs(ALL_KINDS.substring(0, end));
            faultIs(ALL_KINDS.substring(end));
        }
        String[] tooEarly = {"", "+", "+0", "+00", "-", "-0", "z", "c", "m", "u;"};
        for (String text : tooEarly) {
            for (String ahead : new String[] {"", "u;", "z0;", "-00;", "+000;", "+000;u;"}) {
                TermIdeals x = new TermIdeals();
                Due.is("ends too early: '" + ahead + text + "'", Due.read(x, ahead + text), -10 - (ahead + text).length());
            }
        }
    }

    private static void eachSignAtEachPlace() {
        for (int place = 0; place < ALL_KINDS.length(); place++) {
            for (char sign = 0; sign <= 127; sign++) {
                faultIs(ALL_KINDS.substring(0, place) + sign + ALL_KINDS.substring(place + 1));
                faultIs(ALL_KINDS.substring(0, place) + sign + ALL_KINDS.substring(place));
            }
            faultIs(ALL_KINDS.substring(0, place) + ALL_KINDS.substring(place + 1));
        }
    }

    /** "a digit each": 0 .. 9, also where there is no IDEAL, no GENERATOR of that number. */
    private static void digitsOfAClause() {
        for (int one = 0; one <= 9; one++) {
            for (int other = 0; other <= 9; other++) {
                TermIdeals x = Due.with(new int[] {11, 22, 33}, new int[] {44});
                Due.is("+ IDEAL A B", Due.read(x, "+1" + one + other), one == 4 && other == 4 ? 0 : 1);
                Due.generators("+ IDEAL A B", x, 1, one == 4 && other == 4 ? "44" : "44 " + one + other);
                Due.is("+ IDEAL", Due.read(x, "+" + one + "0" + other), one <= 1 ? 1 : 0);
            }
            TermIdeals x = Due.with(new int[] {11, 22, 33}, new int[] {44});
            Due.is("- IDEAL K", Due.read(x, "-0" + one), one <= 2 ? 1 : 0);
            Due.is("- IDEAL K", x.told(0, 0), one <= 2 ? 2 : 3);
            Due.is("- IDEAL", Due.read(x, "-" + one + "0"), one <= 1 ? 1 : 0);
            Due.is("z IDEAL", Due.read(x, "z" + one), one == 0 ? 1 : 0);
            Due.is("m IDEAL", Due.read(x, "m" + one), one <= 1 ? 1 : 0);
            Due.is("c IDEAL", Due.read(x, "c" + one), one <= 1 && x.told(one, 0) > 0 ? 1 : 0);
        }
    }

    private static void faultChangesNothing() {
        Stand.Run some = x -> {
            States.some(x);
            x.read();
        };
        String before = Stand.of(some);
        for (String text : new String[] {"?", "u;", "+099;+098;?", "z0;c0;-0", "u;u;u;u;u;u;u;u;u;u;u;u;u", "+199;;", "m1 "}) {
            Due.same("a FAULT of '" + text + "' changes nothing", Stand.of(x -> {
                some.on(x);
                Due.read(x, text);
            }), before);
        }
    }

    /** "Without it they are done, one behind the other; those that would be refused aren't." */
    private static void refusedOnesAreNotDone() {
        Stand.Run full = x -> {
            States.full(x);
            x.read();
        };
        String before = Stand.of(full);
        String[] refused = {"+000", "+054", "+188", "-06", "-19", "-20", "z2", "z9", "m0", "m1", "m2", "c0", "c1", "c5", "+200", "+999"};
        for (String each : refused) {
            Due.same("refused: " + each, Stand.of(x -> {
                full.on(x);
                Due.is("refused: " + each, Due.read(x, each), 0);
                Due.is("refused twice: " + each, Due.read(x, each + ";" + each), 0);
            }), before);
        }
        TermIdeals x = new TermIdeals();
        Due.is("refused ahead, done behind", Due.read(x, "u;z0;c0;-00;+011"), 1);
        Due.is("done ahead, refused behind", Due.read(x, "z0;z0;u;+022;u;u;u;u"), 5);
        Due.generators("one behind the other", x, 0, "");
        Due.is("what is taken back is no DEED", x.count(4), 0);
    }

    private static void emptyBehindAll() {
        for (String text : new String[] {"u", "+011", "?", "", "u;u;u", "+01"}) {
            TermIdeals x = new TermIdeals();
            Due.read(x, text);
            Due.is("empty behind '" + text + "'", x.count(3), 0);
            Due.is("empty behind '" + text + "'", x.read(), -10);
            Due.is("the first byte again", x.feed('u'), 1);
        }
    }
}

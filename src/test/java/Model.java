import java.util.ArrayDeque;
import java.util.ArrayList;
import java.util.List;
import java.util.TreeSet;
import java.util.regex.Matcher;
import java.util.regex.Pattern;

/**
 * The document once more, by its words and with the Java library, as slow as it likes: what RandomRunsTest
 * compares the class with. It shares no way of reckoning with the class where there is another one.
 */
final class Model {
    private static final int NONE = -1, BAD = -2, STATE = -3, FULL = -4;
    private static final long NO = Long.MIN_VALUE;
    private static final Pattern SET_UP = Pattern.compile(clause() + "(?:;" + clause() + "){0,11}");

    record Term(int a, int b) {
        boolean divides(Term other) {
            return a <= other.a && b <= other.b;
        }

        Term times(Term other) {
            return new Term(a + other.a, b + other.b);
        }
    }

    record Face(int s, int t, int level) {
        int weigh(Term x) {
            return s * x.a + t * x.b;
        }
    }

    record Fraction(long above, long below) implements Comparable<Fraction> {
        static Fraction of(long above, long below) {
            long divisor = 1;
            for (long d = 2; d <= below; d++) {
                if (above % d == 0 && below % d == 0) {
                    divisor = d;
                }
            }
            return new Fraction(above / divisor, below / divisor);
        }

        @Override
        public int compareTo(Fraction other) {
            return Long.compare(above * other.below, other.above * below);
        }

        long part(int part) {
            return part == 0 ? above : below;
        }
    }

    private record Deed(int ideal, List<Term> before) {
    }

    private record Image(List<Term> zero, List<Term> one, List<int[]> seen, List<int[]> events, List<int[]> book) {
    }

    private List<List<Term>> ideals = new ArrayList<>(List.of(List.of(), List.of()));
    private final ArrayDeque<Deed> deeds = new ArrayDeque<>();
    private String text = "";
    private List<int[]> seen = List.of();
    private List<int[]> events = List.of();
    private List<int[]> book = List.of();
    private Image image = null;
    private final Object[] tapes = new Object[6];

    private static String clause() {
        return "(?:\\+[0-9][0-9][0-9]|-[0-9][0-9]|[zcm][0-9]|u)";
    }

    static List<Term> square() {
        List<Term> all = new ArrayList<>();
        for (int i = 0; i < 100; i++) {
            all.add(new Term(i / 10, i % 10));
        }
        return all;
    }

    static boolean isIn(List<Term> ideal, Term x) {
        return ideal.stream().anyMatch(g -> g.divides(x));
    }

    static List<Face> faces(List<Term> ideal) {
        List<Face> all = new ArrayList<>();
        for (int s = 0; s <= 9; s++) {
            for (int t = 0; t <= 9; t++) {
                Face weights = new Face(s, t, 0);
                int level = ideal.stream().mapToInt(weights::weigh).min().orElseThrow();
                long met = ideal.stream().filter(g -> weights.weigh(g) == level).count();
                boolean straight = s + t == 1;
                boolean slanted = s > 0 && t > 0 && met >= 2 && !haveCommonDivisor(s, t);
                if (straight || slanted) {
                    all.add(new Face(s, t, level));
                }
            }
        }
        all.sort((x, y) -> y.s * x.t - x.s * y.t);
        return all;
    }

    private static boolean haveCommonDivisor(int s, int t) {
        for (int d = 2; d <= 9; d++) {
            if (s % d == 0 && t % d == 0) {
                return true;
            }
        }
        return false;
    }

    static boolean isInClosure(List<Term> ideal, Term x) {
        return faces(ideal).stream().allMatch(f -> f.weigh(x) >= f.level);
    }

    static List<Term> closure(List<Term> ideal) {
        List<Face> faces = faces(ideal);
        return square().stream().filter(x -> faces.stream().allMatch(f -> f.weigh(x) >= f.level)).toList();
    }

    static boolean isClosed(List<Term> ideal) {
        return closure(ideal).stream().allMatch(x -> isIn(ideal, x));
    }

    static int barring(List<Term> ideal, Term x, int num, int den) {
        List<Face> faces = faces(ideal);
        Term next = new Term(x.a + 1, x.b + 1);
        for (int i = 0; i < faces.size(); i++) {
            Face f = faces.get(i);
            if (f.level > 0 && !(f.weigh(next) * den > num * f.level)) {
                return i;
            }
        }
        return -1;
    }

    static Fraction jumpOf(List<Face> faces, Term x) {
        Term next = new Term(x.a + 1, x.b + 1);
        return faces.stream().filter(f -> f.level > 0).map(f -> Fraction.of(f.weigh(next), f.level)).sorted().findFirst().orElse(null);
    }

    static List<Fraction> jumpsOf(List<Term> ideal) {
        TreeSet<Fraction> all = new TreeSet<>();
        List<Face> faces = faces(ideal);
        for (Term x : square()) {
            Fraction jump = jumpOf(faces, x);
            if (jump != null) {
                all.add(jump);
            }
        }
        return new ArrayList<>(all);
    }

    static int shortOf(List<Term> ideal, int num, int den) {
        List<Face> faces = faces(ideal);
        int many = 0;
        for (Term x : square()) {
            Fraction jump = jumpOf(faces, x);
            // HELD AT c is the same as c below the JUMP
            many += jump != null && jump.compareTo(Fraction.of(num, den)) <= 0 ? 1 : 0;
        }
        return many;
    }

    static List<Term> least(List<Term> ideal) {
        return ideal.stream().filter(x -> ideal.stream().noneMatch(g -> !g.equals(x) && g.divides(x))).toList();
    }

    static List<Term> product(List<Term> one, List<Term> other) {
        List<Term> all = new ArrayList<>();
        for (Term x : one) {
            for (Term y : other) {
                all.add(x.times(y));
            }
        }
        return least(all.stream().distinct().toList());
    }

    static List<Term> power(List<Term> ideal, int n) {
        List<Term> all = List.of(new Term(0, 0));
        for (int i = 0; i < n; i++) {
            all = product(all, ideal);
        }
        return all;
    }

    static int heightOf(List<Term> ideal, int a) {
        return ideal.stream().filter(g -> g.a <= a).mapToInt(g -> g.b).min().orElse(-5);
    }

    private static boolean like(List<Term> one, List<Term> other) {
        return one.size() == other.size() && one.containsAll(other);
    }

    private boolean none(int ideal) {
        return ideal != 0 && ideal != 1;
    }

    private boolean none(int ideal, int k) {
        return none(ideal) || k < 0 || k >= ideals.get(ideal).size();
    }

    private static boolean outside(int n, int from, int to) {
        return n < from || n > to;
    }

    private static boolean badTerm(int a, int b) {
        return outside(a, 0, 9) || outside(b, 0, 9);
    }

    private static boolean badFraction(int num, int den) {
        return outside(num, 1, 99) || outside(den, 1, 99);
    }

    private void deed(int ideal, List<Term> then) {
        deeds.addLast(new Deed(ideal, ideals.get(ideal)));
        if (deeds.size() > 10) {
            deeds.removeFirst();
        }
        ideals.set(ideal, List.copyOf(then));
    }

    private static <T> List<T> plus(List<T> row, T item) {
        List<T> all = new ArrayList<>(row);
        all.add(item);
        return all;
    }

    int generate(int ideal, int a, int b) {
        if (none(ideal)) {
            return NONE;
        }
        if (badTerm(a, b)) {
            return BAD;
        }
        if (ideals.get(ideal).contains(new Term(a, b))) {
            return STATE;
        }
        if (ideals.get(ideal).size() == 6) {
            return FULL;
        }
        deed(ideal, plus(ideals.get(ideal), new Term(a, b)));
        return ideals.get(ideal).size();
    }

    int drop(int ideal, int k) {
        if (none(ideal, k)) {
            return NONE;
        }
        List<Term> left = new ArrayList<>(ideals.get(ideal));
        left.remove(k);
        deed(ideal, left);
        return left.size();
    }

    int clear(int ideal) {
        if (none(ideal)) {
            return NONE;
        }
        int had = ideals.get(ideal).size();
        if (had == 0) {
            return STATE;
        }
        deed(ideal, List.of());
        return had;
    }

    int merge(int ideal) {
        if (none(ideal)) {
            return NONE;
        }
        List<Term> all = new ArrayList<>(ideals.get(ideal));
        for (Term x : ideals.get(1 - ideal)) {
            if (!all.contains(x)) {
                all.add(x);
            }
        }
        if (all.size() > 6) {
            return FULL;
        }
        deed(ideal, all);
        return all.size();
    }

    int close(int ideal) {
        if (none(ideal)) {
            return NONE;
        }
        if (ideals.get(ideal).isEmpty()) {
            return STATE;
        }
        List<Term> all = closure(ideals.get(ideal));
        List<Term> needed = new ArrayList<>();
        for (Term x : all) {
            List<Term> rest = new ArrayList<>(all);
            rest.remove(x);
            if (!all.stream().allMatch(y -> isIn(rest, y))) {
                needed.add(x);
            }
        }
        if (needed.size() > 6) {
            return FULL;
        }
        needed.sort((x, y) -> x.a - y.a);
        deed(ideal, needed);
        return needed.size();
    }

    int back() {
        if (deeds.isEmpty()) {
            return STATE;
        }
        Deed latest = deeds.removeLast();
        ideals.set(latest.ideal, latest.before);
        return deeds.size();
    }

    int feed(int sign) {
        if (outside(sign, 0, 127)) {
            return BAD;
        }
        if (text.length() == 100) {
            return FULL;
        }
        text += (char) sign;
        return text.length();
    }

    private static int fault(String text) {
        if (SET_UP.matcher(text).matches()) {
            return -1;
        }
        for (int end = 1; end <= text.length(); end++) {
            Matcher m = SET_UP.matcher(text.substring(0, end));
            if (!m.matches() && !m.hitEnd()) {
                return end - 1;
            }
        }
        return text.length();
    }

    int read() {
        String was = text;
        text = "";
        int fault = fault(was);
        if (fault >= 0) {
            return -10 - fault;
        }
        int done = 0;
        for (String clause : was.split(";")) {
            done += doClause(clause) >= 0 ? 1 : 0;
        }
        return done;
    }

    private int doClause(String clause) {
        int[] n = clause.substring(1).chars().map(c -> c - '0').toArray();
        return switch (clause.charAt(0)) {
            case '+' -> generate(n[0], n[1], n[2]);
            case '-' -> drop(n[0], n[1]);
            case 'z' -> clear(n[0]);
            case 'c' -> close(n[0]);
            case 'm' -> merge(n[0]);
            default -> back();
        };
    }

    int of(int ideal, int k, int what) {
        if (none(ideal, k) || outside(what, 0, 2)) {
            return NONE;
        }
        Term x = ideals.get(ideal).get(k);
        return what == 0 ? x.a : what == 1 ? x.b : least(ideals.get(ideal)).contains(x) ? 1 : 0;
    }

    int told(int ideal, int what) {
        if (none(ideal) || outside(what, 0, 4)) {
            return NONE;
        }
        List<Term> asked = ideals.get(ideal);
        if (what >= 2 && asked.isEmpty()) {
            return STATE;
        }
        return switch (what) {
            case 0 -> asked.size();
            case 1 -> least(asked).size();
            case 2 -> faces(asked).size();
            case 3 -> isClosed(asked) ? 1 : 0;
            default -> jumpsOf(asked).size();
        };
    }

    int in(int ideal, int a, int b, int what) {
        if (none(ideal) || outside(what, 0, 1)) {
            return NONE;
        }
        if (badTerm(a, b)) {
            return BAD;
        }
        List<Term> asked = ideals.get(ideal);
        if (what == 1 && asked.isEmpty()) {
            return STATE;
        }
        Term x = new Term(a, b);
        return (what == 0 ? isIn(asked, x) : isInClosure(asked, x)) ? 1 : 0;
    }

    int face(int ideal, int i, int what) {
        if (none(ideal)) {
            return NONE;
        }
        if (ideals.get(ideal).isEmpty()) {
            return STATE;
        }
        List<Face> faces = faces(ideals.get(ideal));
        if (outside(i, 0, faces.size() - 1) || outside(what, 0, 2)) {
            return NONE;
        }
        Face f = faces.get(i);
        return what == 0 ? f.s : what == 1 ? f.t : f.level;
    }

    int held(int ideal, int a, int b, int num, int den) {
        if (none(ideal)) {
            return NONE;
        }
        if (badTerm(a, b) || badFraction(num, den)) {
            return BAD;
        }
        if (ideals.get(ideal).isEmpty()) {
            return STATE;
        }
        return barring(ideals.get(ideal), new Term(a, b), num, den) < 0 ? 1 : 0;
    }

    int reason(int ideal, int a, int b, int num, int den, int i) {
        if (none(ideal) || outside(i, 0, 4)) {
            return NONE;
        }
        int held = held(ideal, a, b, num, den);
        if (held < 0) {
            return held;
        }
        if (held == 1) {
            return -5;
        }
        int number = barring(ideals.get(ideal), new Term(a, b), num, den);
        Face f = faces(ideals.get(ideal)).get(number);
        return new int[] {number, f.weigh(new Term(a + 1, b + 1)), f.level, num, den}[i];
    }

    long jump(int ideal, int a, int b, int part) {
        if (none(ideal) || badTerm(a, b) || outside(part, 0, 1) || ideals.get(ideal).isEmpty()) {
            return NO;
        }
        Fraction jump = jumpOf(faces(ideals.get(ideal)), new Term(a, b));
        return jump == null ? NO : jump.part(part);
    }

    long jumps(int ideal, int i, int part) {
        if (none(ideal) || outside(part, 0, 1) || ideals.get(ideal).isEmpty()) {
            return NO;
        }
        List<Fraction> all = jumpsOf(ideals.get(ideal));
        return outside(i, 0, all.size() - 1) ? NO : all.get(i).part(part);
    }

    int lacks(int ideal, int num, int den) {
        if (none(ideal)) {
            return NONE;
        }
        if (badFraction(num, den)) {
            return BAD;
        }
        return ideals.get(ideal).isEmpty() ? STATE : shortOf(ideals.get(ideal), num, den);
    }

    int height(int ideal, int what, int a) {
        if (none(ideal) || (outside(what, 0, 2) && outside(what, 10, 16))) {
            return NONE;
        }
        if (outside(a, 0, 60)) {
            return BAD;
        }
        List<Term> both = new ArrayList<>(ideals.get(0));
        both.addAll(ideals.get(1));
        return switch (what) {
            case 0 -> heightOf(ideals.get(ideal), a);
            case 1 -> heightOf(both, a);
            case 2 -> heightOf(product(ideals.get(0), ideals.get(1)), a);
            default -> heightOf(power(ideals.get(ideal), what - 10), a);
        };
    }

    int reduces(int what) {
        List<Term> zero = ideals.get(0);
        List<Term> one = ideals.get(1);
        if (what == 0) {
            boolean is = !zero.isEmpty() && !one.isEmpty() && zero.stream().allMatch(x -> isIn(one, x))
                && one.stream().allMatch(x -> isInClosure(zero, x));
            return is ? 1 : 0;
        }
        if (what != 1) {
            return NONE;
        }
        for (int r = 0; r <= 5; r++) {
            if (like(product(zero, power(one, r)), power(one, r + 1))) {
                return r;
            }
        }
        return -5;
    }

    int see(int i, int num, int den) {
        if (i == -1) {
            seen = List.of();
            return 0;
        }
        if (outside(i, 0, 99)) {
            return NONE;
        }
        if (badFraction(num, den)) {
            return BAD;
        }
        if (seen.size() == 4) {
            return FULL;
        }
        seen = plus(seen, new int[] {i, num, den});
        return seen.size();
    }

    private boolean isAsSeen(List<Term> zero) {
        List<Fraction> all = zero.isEmpty() ? List.of() : jumpsOf(zero);
        return seen.stream().allMatch(row -> row[0] < all.size() && all.get(row[0]).equals(Fraction.of(row[1], row[2])));
    }

    int fits(int ideal, int k, int letter, int what) {
        if (none(ideal, k) || outside(letter, 0, 1) || outside(what, 0, 1)) {
            return NONE;
        }
        List<Integer> powers = new ArrayList<>();
        for (int p = 0; p <= 9; p++) {
            List<Term> then = new ArrayList<>(ideals.get(ideal));
            Term was = then.remove(k);
            Term is = letter == 0 ? new Term(p, was.b) : new Term(was.a, p);
            boolean likeAnother = then.contains(is);
            then.add(k, is);
            if (!likeAnother && isAsSeen(ideal == 0 ? then : ideals.get(0))) {
                powers.add(p);
            }
        }
        return what == 0 ? powers.size() : powers.isEmpty() ? -5 : powers.get(0);
    }

    long odds(int ideal, int num, int den, int part) {
        if (none(ideal) || badFraction(num, den) || outside(part, 0, 1) || ideals.get(ideal).isEmpty()) {
            return NO;
        }
        return Fraction.of(100 - shortOf(ideals.get(ideal), num, den), 100).part(part);
    }

    long mean(int ideal, int part) {
        if (none(ideal) || outside(part, 0, 1) || ideals.get(ideal).isEmpty()) {
            return NO;
        }
        int sum = ideals.get(ideal).stream().mapToInt(x -> x.a + x.b).sum();
        return Fraction.of(sum, ideals.get(ideal).size()).part(part);
    }

    int event(int what, int n) {
        if (what == -1) {
            events = List.of();
            return 0;
        }
        if (outside(what, 0, 2)) {
            return NONE;
        }
        if (what == 0 && outside(n, 0, 99) || what == 1 && outside(n, 0, 5) || what == 2 && outside(n, 1, 9)) {
            return BAD;
        }
        if (events.size() == 8) {
            return FULL;
        }
        events = plus(events, new int[] {what, n});
        return events.size();
    }

    private static List<Term> happened(List<Term> zero, int what, int n) {
        Term x = new Term(n / 10, n % 10);
        if (what == 0) {
            return zero.contains(x) || zero.size() == 6 ? zero : plus(zero, x);
        }
        if (what == 1) {
            List<Term> left = new ArrayList<>(zero);
            if (n < left.size()) {
                left.remove(n);
            }
            return left;
        }
        return zero.stream().map(g -> new Term(Math.max(0, g.a - n), Math.max(0, g.b - n))).distinct().toList();
    }

    int after(int what) {
        if (outside(what, 0, 2)) {
            return NONE;
        }
        List<Term> then = ideals.get(0);
        for (int[] row : events) {
            then = happened(then, row[0], row[1]);
        }
        if (what == 0) {
            return then.size();
        }
        return then.isEmpty() ? STATE : what == 1 ? jumpsOf(then).size() : isClosed(then) ? 1 : 0;
    }

    int book(int term, int is) {
        if (term == -1) {
            book = List.of();
            return 0;
        }
        if (outside(term, 0, 99)) {
            return NONE;
        }
        if (outside(is, 0, 1)) {
            return BAD;
        }
        if (book.size() == 8) {
            return FULL;
        }
        book = plus(book, new int[] {term, is});
        return book.size();
    }

    int looked() {
        for (int i = 0; i < book.size(); i++) {
            int[] row = book.get(i);
            if (isIn(ideals.get(0), new Term(row[0] / 10, row[0] % 10)) != (row[1] == 1)) {
                return i;
            }
        }
        return -5;
    }

    int judge(int ideal, int tape, int i) {
        if (none(ideal) || outside(tape, 0, 5)) {
            return NONE;
        }
        if (tapes[tape] == null) {
            return 100;
        }
        if (!(tapes[tape] instanceof byte[] row)) {
            return -12;
        }
        for (int a = 0; a <= 9; a++) {
            long place = (long) i + a;
            if (place < 0 || place >= row.length) {
                return 100 + a;
            }
            if (row[(int) place] != heightOf(ideals.get(ideal), a)) {
                return a;
            }
        }
        return -5;
    }

    private int generators() {
        return ideals.get(0).size() + ideals.get(1).size();
    }

    int image() {
        image = new Image(ideals.get(0), ideals.get(1), seen, events, book);
        return generators();
    }

    int undo() {
        if (image == null) {
            return STATE;
        }
        ideals = new ArrayList<>(List.of(image.zero, image.one));
        seen = image.seen;
        events = image.events;
        book = image.book;
        deeds.clear();
        return generators();
    }

    int count(int what) {
        return switch (what) {
            case 0 -> seen.size();
            case 1 -> events.size();
            case 2 -> book.size();
            case 3 -> text.length();
            case 4 -> deeds.size();
            default -> BAD;
        };
    }

    int tape(int tape, int sort, int n) {
        if (outside(tape, 0, 5)) {
            return NONE;
        }
        if (sort == -1) {
            tapes[tape] = null;
            return 1;
        }
        if (outside(sort, 0, 4) || n > 60) {
            return BAD;
        }
        if (n < 0) {
            return -14;
        }
        tapes[tape] = switch (sort) {
            case 0 -> new byte[n];
            case 1 -> new short[n];
            case 2 -> new int[n];
            case 3 -> new long[n];
            default -> new boolean[n];
        };
        return 1;
    }

    int item(int tape, int i, long v) {
        if (outside(tape, 0, 5)) {
            return NONE;
        }
        Object row = tapes[tape];
        if (row == null) {
            return -11;
        }
        if (outside(i, 0, java.lang.reflect.Array.getLength(row) - 1)) {
            return -13;
        }
        if (row instanceof byte[] bytes) {
            bytes[i] = (byte) v;
        } else if (row instanceof short[] shorts) {
            shorts[i] = (short) v;
        } else if (row instanceof int[] ints) {
            ints[i] = (int) v;
        } else if (row instanceof long[] longs) {
            longs[i] = v;
        } else {
            ((boolean[]) row)[i] = v != 0;
        }
        return 1;
    }

    long peek(int tape, int i) {
        if (outside(tape, 0, 5) || tapes[tape] == null || outside(i, 0, java.lang.reflect.Array.getLength(tapes[tape]) - 1)) {
            return NO;
        }
        if (tapes[tape] instanceof boolean[] booleans) {
            return booleans[i] ? 1 : 0;
        }
        return java.lang.reflect.Array.getLong(tapes[tape], i);
    }

    int shift(int tape, int i, int other, int j, int n) {
        if (outside(tape, 0, 5) || outside(other, 0, 5)) {
            return NONE;
        }
        if (tapes[tape] == null || tapes[other] == null) {
            return -11;
        }
        if (tapes[tape].getClass() != tapes[other].getClass()) {
            return -12;
        }
        try {
            System.arraycopy(tapes[tape], i, tapes[other], j, n);
            return n;
        } catch (IndexOutOfBoundsException e) {
            return -13;
        }
    }
}

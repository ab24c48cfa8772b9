/** Compares answers with those that are due, and ends a test with exit code 1 if one was otherwise. */
final class Due {
    static final int NONE = -1, BAD = -2, STATE = -3, FULL = -4;
    static final int NOTHING = -11, CAST = -12, PLACE = -13, SIZE = -14;
    static final long NO = Long.MIN_VALUE;
    static final int LOW = Integer.MIN_VALUE, HIGH = Integer.MAX_VALUE;

    private static int asked = 0;
    private static int wrong = 0;

    private Due() {
    }

    static void is(String what, long got, long want) {
        asked++;
        if (got != want) {
            wrong++;
            System.out.println(what + ": answered " + got + ", due is " + want);
        }
    }

    static void same(String what, String got, String want) {
        asked++;
        if (!got.equals(want)) {
            wrong++;
            System.out.println(what + ": stands so:\n" + got + "due is:\n" + want);
        }
    }

    static void end(String test) {
        System.out.println(test + ": " + asked + " answers, " + wrong + " wrong");
        if (wrong > 0 || asked == 0) {
            System.exit(1);
        }
    }

    /** An object whose IDEAL 0 has the TERMS of the first row (10 a and b), IDEAL 1 those of the second. */
    static TermIdeals with(int[] zero, int[] one) {
        TermIdeals x = new TermIdeals();
        for (int term : zero) {
            x.generate(0, term / 10, term % 10);
        }
        for (int term : one) {
            x.generate(1, term / 10, term % 10);
        }
        return x;
    }

    static TermIdeals with(int... zero) {
        return with(zero, new int[0]);
    }

    /** The GENERATORS of an IDEAL as one text, such as "03 20". */
    static String generators(TermIdeals x, int ideal) {
        StringBuilder all = new StringBuilder();
        for (int k = 0; k < x.told(ideal, 0); k++) {
            all.append(k == 0 ? "" : " ").append(x.of(ideal, k, 0)).append(x.of(ideal, k, 1));
        }
        return all.toString();
    }

    static void generators(String what, TermIdeals x, int ideal, String want) {
        String got = generators(x, ideal);
        asked++;
        if (!got.equals(want)) {
            wrong++;
            System.out.println(what + ": GENERATORS are '" + got + "', due are '" + want + "'");
        }
    }

    /** What read() answers to a text. */
    static int read(TermIdeals x, String signs) {
        for (int i = 0; i < signs.length(); i++) {
            x.feed(signs.charAt(i));
        }
        return x.read();
    }
}

/**
 * The sentences of "Terms" about TERMS, FACES and fractions, at their edges: for all pairs of TERMS what is due is
 * reckoned here from the one line through both, not from a list of weights.
 */
public final class TermsTest {
    public static void main(String[] args) {
        powersAreNoughtToNine();
        inIsNoMoreThanBoth();
        noGeneratorsNoTermIn();
        for (int one = 0; one < 100; one++) {
            for (int other = 0; other < one; other++) {
                Pair pair = new Pair(one, other);
                pair.faces();
                pair.hull();
                if ((one + other) % 7 == 0) {
                    pair.fractions();
                    pair.jumps();
                }
            }
        }
        numberedBySByT();
        likeOnesAreOneFace();
        levelOfNoughtBarsNothing();
        causesInTheirOrder();
        leastIsInByNoOther();
        Due.end("TermsTest");
    }

    private static void powersAreNoughtToNine() {
        for (int term = 0; term < 100; term++) {
            TermIdeals x = Due.with(new int[] {term}, new int[] {term});
            for (int ideal = 0; ideal <= 1; ideal++) {
                Due.is("a of " + term, x.of(ideal, 0, 0), term / 10);
                Due.is("b of " + term, x.of(ideal, 0, 1), term % 10);
            }
        }
    }

    private static void inIsNoMoreThanBoth() {
        for (int g = 0; g < 100; g++) {
            TermIdeals x = Due.with(g);
            for (int term = 0; term < 100; term++) {
                int want = g / 10 <= term / 10 && g % 10 <= term % 10 ? 1 : 0;
                Due.is(term + " IN " + g, x.in(0, term / 10, term % 10, 0), want);
                Due.is(term + " in the CLOSURE of " + g, x.in(0, term / 10, term % 10, 1), want);
            }
            Due.is("one alone is CLOSED", x.told(0, 3), 1);
            Due.is("one alone has the two straight FACES", x.told(0, 2), 2);
        }
    }

    private static void noGeneratorsNoTermIn() {
        TermIdeals x = Due.with(new int[] {0}, new int[] {0});
        x.clear(0);
        x.drop(1, 0);
        for (int term = 0; term < 100; term++) {
            Due.is(term + " IN none", x.in(0, term / 10, term % 10, 0), 0);
            Due.is(term + " IN none", x.in(1, term / 10, term % 10, 0), 0);
        }
    }

    /** What is due of an IDEAL with two GENERATORS. */
    private static final class Pair {
        private final String name;
        private final TermIdeals x;
        private final int s, t, level;
        private final int lowA, lowB;
        private final int one, other;

        Pair(int one, int other) {
            this.one = one;
            this.other = other;
            name = other + " and " + one + ": ";
            x = Due.with(one, other);
            int right = one / 10 - other / 10;
            int down = other % 10 - one % 10;
            boolean slanted = right > 0 && down > 0;
            int divisor = slanted ? java.math.BigInteger.valueOf(right).gcd(java.math.BigInteger.valueOf(down)).intValue() : 1;
            s = slanted ? down / divisor : 0;
            t = slanted ? right / divisor : 0;
            level = s * (one / 10) + t * (one % 10);
            lowA = Math.min(one / 10, other / 10);
            lowB = Math.min(one % 10, other % 10);
        }

        private void faceIs(int i, int wantS, int wantT, int wantLevel) {
            Due.is(name + "s of FACE " + i, x.face(0, i, 0), wantS);
            Due.is(name + "t of FACE " + i, x.face(0, i, 1), wantT);
            Due.is(name + "LEVEL of FACE " + i, x.face(0, i, 2), wantLevel);
        }

        void faces() {
            int last = s > 0 ? 2 : 1;
            Due.is(name + "FACES", x.told(0, 2), last + 1);
            faceIs(0, 1, 0, lowA);
            if (s > 0) {
                faceIs(1, s, t, level);
            }
            faceIs(last, 0, 1, lowB);
            Due.is(name + "no more FACES", x.face(0, last + 1, 0), Due.NONE);
        }

        private boolean isInHull(int a, int b) {
            return a >= lowA && b >= lowB && s * a + t * b >= level;
        }

        private boolean isIn(int a, int b) {
            return a >= one / 10 && b >= one % 10 || a >= other / 10 && b >= other % 10;
        }

        void hull() {
            int closed = 1;
            for (int a = 0; a <= 9; a++) {
                for (int b = 0; b <= 9; b++) {
                    Due.is(name + a + b + " in the CLOSURE", x.in(0, a, b, 1), isInHull(a, b) ? 1 : 0);
                    closed = isInHull(a, b) && !isIn(a, b) ? 0 : closed;
                }
            }
            Due.is(name + "CLOSED", x.told(0, 3), closed);
        }

        /** A fraction is a number above the line and one below it; no JUMP is one of none by 0. */
        private int[] jump(int a, int b) {
            int[] least = {0, 0};
            int[][] all = {{a + 1, lowA}, {s * (a + 1) + t * (b + 1), level}, {b + 1, lowB}};
            for (int[] each : all) {
                if (each[1] > 0 && (least[1] == 0 || each[0] * least[1] < least[0] * each[1])) {
                    least = each;
                }
            }
            return least;
        }

        void fractions() {
            for (int a = 0; a <= 9; a += 3) {
                for (int b = 0; b <= 9; b += 3) {
                    int[] jump = jump(a, b);
                    if (jump[1] == 0) {
                        Due.is(name + "no JUMP", x.jump(0, a, b, 0), Due.NO);
                        Due.is(name + "HELD AT all", x.held(0, a, b, 99, 1), 1);
                        continue;
                    }
                    long above = x.jump(0, a, b, 0);
                    long below = x.jump(0, a, b, 1);
                    Due.is(name + "JUMP of " + a + b, above * jump[1], below * jump[0]);
                    Due.is(name + "lowest terms", java.math.BigInteger.valueOf(above).gcd(java.math.BigInteger.valueOf(below)).intValue(), 1);
                    if (above <= 99) {
                        Due.is(name + "not HELD AT its JUMP", x.held(0, a, b, (int) above, (int) below), 0);
                    }
                    int under = (int) ((above * 99 - 1) / below);
                    if (under >= 1 && under <= 99) {
                        Due.is(name + "HELD just below it", x.held(0, a, b, under, 99), 1);
                    }
                }
            }
        }

        void jumps() {
            int many = 0;
            int[] last = {-1, 1};
            for (int[] least = nextBehind(last); least[1] > 0; least = nextBehind(last)) {
                Due.is(name + "JUMP " + many, x.jumps(0, many, 0) * least[1], x.jumps(0, many, 1) * least[0]);
                last = least;
                many++;
            }
            Due.is(name + "JUMPS", x.told(0, 4), many);
            Due.is(name + "no more JUMPS", x.jumps(0, many, 0), Due.NO);
        }

        /** The least JUMP of a TERM that is more than the last one. */
        private int[] nextBehind(int[] last) {
            int[] next = {0, 0};
            for (int term = 0; term < 100; term++) {
                int[] jump = jump(term / 10, term % 10);
                boolean behind = jump[1] > 0 && jump[0] * last[1] > last[0] * jump[1];
                if (behind && (next[1] == 0 || jump[0] * next[1] < next[0] * jump[1])) {
                    next = jump;
                }
            }
            return next;
        }
    }

    /** 2 by 1 is ahead of 3 by 2, and 2 by 3 behind it, whichever of s and t is the greater one. */
    private static void numberedBySByT() {
        TermIdeals x = Due.with(32, 7, 60, 15);
        int[][] want = {{1, 0, 0}, {2, 1, 7}, {3, 2, 13}, {2, 3, 12}, {0, 1, 0}};
        Due.is("FACES", x.told(0, 2), want.length);
        for (int i = 0; i < want.length; i++) {
            for (int what = 0; what <= 2; what++) {
                Due.is("FACE " + i + ", " + what, x.face(0, i, what), want[i][what]);
            }
        }
    }

    /** Three GENERATORS on one line, or six, are of one FACE; two that have no GENERATOR below them alone are. */
    private static void likeOnesAreOneFace() {
        TermIdeals six = Due.with(5, 14, 23, 32, 41, 50);
        Due.is("six on a line: FACES", six.told(0, 2), 3);
        Due.is("six on a line: s", six.face(0, 1, 0), 1);
        Due.is("six on a line: t", six.face(0, 1, 1), 1);
        Due.is("six on a line: LEVEL", six.face(0, 1, 2), 5);
        TermIdeals below = Due.with(5, 50, 11);
        Due.is("a line with one below it is of no FACE", below.told(0, 2), 4);
        Due.is("a line with one below it is of no FACE", below.face(0, 1, 0), 4);
        Due.is("a line with one below it is of no FACE", below.face(0, 2, 1), 4);
        TermIdeals above = Due.with(5, 50, 44);
        Due.is("a GENERATOR above the line has no FACE", above.told(0, 2), 3);
    }

    private static void levelOfNoughtBarsNothing() {
        // s 1, t 0 and s 0, t 1 are of LEVEL 0 here, s 1, t 1 of LEVEL 1
        TermIdeals x = Due.with(1, 10);
        for (int term = 0; term < 100; term++) {
            int a = term / 10;
            int b = term % 10;
            Due.is("HELD by the one LEVEL above 0", x.held(0, a, b, a + b + 1, 1), 1);
            Due.is("BARRED by the one LEVEL above 0", x.held(0, a, b, a + b + 2, 1), 0);
            Due.is("REASON 0", x.reason(0, a, b, a + b + 2, 1, 0), 1);
        }
        Due.is("JUMPS", x.told(0, 4), 19);
        TermIdeals all = Due.with(0, 34);
        for (int term = 0; term < 100; term++) {
            Due.is("no LEVEL above 0: HELD", all.held(0, term / 10, term % 10, 99, 1), 1);
            Due.is("no LEVEL above 0: REASON", all.reason(0, term / 10, term % 10, 99, 1, 0), -5);
            Due.is("no LEVEL above 0: JUMP", all.jump(0, term / 10, term % 10, 0), Due.NO);
        }
        Due.is("no LEVEL above 0: JUMPS", all.told(0, 4), 0);
        Due.is("no LEVEL above 0: JUMPS", all.jumps(0, 0, 0), Due.NO);
        Due.is("no LEVEL above 0: SHORT", all.lacks(0, 99, 1), 0);
    }

    /** At 0, 0 all seven FACES of this IDEAL bar, but for the straight ones; each c from the greatest on leaves fewer. */
    private static void causesInTheirOrder() {
        TermIdeals x = Due.with(9, 15, 23, 32, 51, 90);
        // 4 1, 2 1, 1 1, 1 2, 1 4 of LEVEL 9, 7, 5, 7, 9: at 0, 0 these are 5 by 9, 3 by 7, 2 by 5, 3 by 7, 5 by 9
        int[][] want = {{5, 9, 1, 5, 9}, {54, 99, 2, 3, 7}, {3, 7, 2, 3, 7}, {42, 99, 3, 2, 5}, {2, 5, 3, 2, 5}};
        for (int[] row : want) {
            Due.is("the first FACE by which it isn't", x.reason(0, 0, 0, row[0], row[1], 0), row[2]);
            Due.is("what it is by that", x.reason(0, 0, 0, row[0], row[1], 1), row[3]);
            Due.is("LEVEL of that", x.reason(0, 0, 0, row[0], row[1], 2), row[4]);
            Due.is("above the line, as told", x.reason(0, 0, 0, row[0], row[1], 3), row[0]);
            Due.is("below the line, as told", x.reason(0, 0, 0, row[0], row[1], 4), row[1]);
        }
        for (int i = 0; i <= 4; i++) {
            Due.is("HELD has no REASON", x.reason(0, 0, 0, 39, 99, i), -5);
        }
        // 9 a and b of 9, 0 are 10, 1: by s 1, t 0 of LEVEL 2 and by s 0, t 1 of LEVEL 3
        TermIdeals straight = Due.with(23);
        Due.is("the last FACE bars", straight.reason(0, 9, 0, 1, 3, 0), 1);
        Due.is("the first one does", straight.reason(0, 0, 0, 1, 2, 0), 0);
        Due.is("the first one does not any more", straight.reason(0, 0, 0, 49, 99, 0), 1);
    }

    private static void leastIsInByNoOther() {
        TermIdeals none = new TermIdeals();
        Due.is("LEAST of none", none.told(0, 1), 0);
        TermIdeals one = Due.with(99, 98, 89, 88, 79, 97);
        int[] want = {0, 0, 0, 1, 1, 1};
        int many = 0;
        for (int k = 0; k < 6; k++) {
            Due.is("LEAST " + k, one.of(0, k, 2), want[k]);
            many += want[k];
        }
        Due.is("LEAST", one.told(0, 1), many);
        TermIdeals all = Due.with(5, 14, 23, 32, 41, 50);
        Due.is("all are LEAST", all.told(0, 1), 6);
        all.drop(0, 5);
        all.generate(0, 0, 0);
        Due.is("all TERMS: one is LEAST", all.told(0, 1), 1);
        Due.is("all TERMS: the last is", all.of(0, 5, 2), 1);
    }
}

/** Promises 21 to 24: see, fits, odds, mean. */
public final class SeenTest {
    public static void main(String[] args) {
        see();
        fits();
        fitsOfOther();
        fitsNotLikeAnother();
        fitsRefusals();
        fitsByTrying();
        odds();
        mean();
        Due.end("SeenTest");
    }

    private static void see() {
        TermIdeals x = new TermIdeals();
        for (int i : new int[] {-2, 100, Due.LOW, Due.HIGH}) {
            Due.is("21 i", x.see(i, 0, 0), Due.NONE);
        }
        int[][] bad = {{0, 1}, {100, 1}, {1, 0}, {1, 100}, {Due.LOW, Due.HIGH}};
        for (int[] c : bad) {
            Due.is("21 num, den", x.see(0, c[0], c[1]), Due.BAD);
        }
        Due.is("21 first", x.see(0, 1, 1), 1);
        Due.is("21 edges", x.see(99, 99, 99), 2);
        Due.is("21 like another", x.see(0, 1, 1), 3);
        Due.is("21 fourth", x.see(0, 2, 1), 4);
        Due.is("21 full", x.see(0, 1, 1), Due.FULL);
        Due.is("21 BAD ahead of FULL", x.see(0, 1, 0), Due.BAD);
        Due.is("21 NONE ahead of FULL", x.see(100, 1, 1), Due.NONE);
        Due.is("21 count", x.count(0), 4);
        Due.is("21 none then", x.see(-1, 500, -7), 0);
        Due.is("21 none then", x.count(0), 0);
        Due.is("21 again", x.see(5, 1, 1), 1);
    }

    private static void fits() {
        TermIdeals x = Due.with(3, 20);
        Due.is("22 nothing SEEN, all powers but none like", x.fits(0, 0, 0, 0), 10);
        Due.is("22 nothing SEEN, the least", x.fits(0, 0, 0, 1), 0);
        x.see(0, 10, 12);
        Due.is("22 a fraction is compared", x.fits(0, 0, 1, 0), 1);
        Due.is("22 the least", x.fits(0, 0, 1, 1), 3);
        Due.is("22 the other letter", x.fits(0, 1, 0, 1), 2);
        x.see(43, 25, 3);
        Due.is("22 both rows", x.fits(0, 0, 1, 1), 3);
        x.see(44, 26, 3);
        Due.is("22 not as many JUMPS", x.fits(0, 0, 1, 0), 0);
        Due.is("22 none", x.fits(0, 0, 1, 1), -5);
        x.see(-1, 0, 0);
        x.see(0, 1, 2);
        // b 1 has JUMPS of 3 by 2 on; b 0 has none: the first is 1 by 2 and 1 by b, together
        Due.is("22 by none", x.fits(0, 0, 1, 0), 0);
        Due.is("22 asking changes nothing", x.of(0, 0, 1), 3);
        Due.is("22 asking is no DEED", x.count(4), 2);
        TermIdeals y = Due.with(25, 99);
        y.see(0, 1, 5);
        // a, 5 beside 9, 9: while a is 5 or less, t 1 is the tightest at 0, 0
        Due.is("22 many", y.fits(0, 0, 0, 0), 6);
        Due.is("22 the least of many", y.fits(0, 0, 0, 1), 0);
        TermIdeals one = Due.with(new int[] {50}, new int[] {11});
        one.see(0, 1, 3);
        Due.is("22 one GENERATOR", one.fits(0, 0, 0, 1), 3);
        one.see(1, 2, 3);
        one.see(9, 10, 3);
        Due.is("22 three rows", one.fits(0, 0, 0, 0), 1);
        one.drop(0, 0);
        one.generate(0, 3, 0);
        Due.is("22 IDEAL 1 beside one GENERATOR", one.fits(1, 0, 0, 0), 10);
        one.see(2, 4, 3);
        Due.is("22 the last row is otherwise", one.fits(1, 0, 0, 0), 0);
    }

    private static void fitsOfOther() {
        TermIdeals x = Due.with(new int[] {3, 20}, new int[] {11, 15, 17});
        Due.is("22 IDEAL 1, nothing SEEN", x.fits(1, 0, 1, 0), 8);
        x.see(0, 5, 6);
        Due.is("22 IDEAL 1, as SEEN", x.fits(1, 0, 1, 0), 8);
        Due.is("22 IDEAL 1, as SEEN", x.fits(1, 0, 1, 1), 0);
        x.see(0, 4, 6);
        Due.is("22 IDEAL 1, not as SEEN", x.fits(1, 0, 1, 0), 0);
        Due.is("22 IDEAL 1, not as SEEN", x.fits(1, 0, 1, 1), -5);
        x.clear(0);
        Due.is("22 IDEAL 0 is empty", x.fits(1, 0, 1, 0), 0);
        x.see(-1, 0, 0);
        Due.is("22 IDEAL 0 is empty, nothing SEEN", x.fits(1, 0, 0, 0), 10);
    }

    private static void fitsNotLikeAnother() {
        TermIdeals x = Due.with(3, 23, 53, 95);
        Due.is("22 two like others", x.fits(0, 1, 0, 0), 8);
        Due.is("22 the least", x.fits(0, 1, 0, 1), 1);
        Due.is("22 itself is no other", x.fits(0, 3, 0, 0), 10);
    }

    private static void fitsRefusals() {
        TermIdeals x = Due.with(3, 20);
        Due.is("22 ideal", x.fits(2, 0, 0, 0), Due.NONE);
        Due.is("22 ideal", x.fits(-1, 0, 0, 0), Due.NONE);
        Due.is("22 k", x.fits(0, 2, 0, 0), Due.NONE);
        Due.is("22 k", x.fits(0, -1, 0, 0), Due.NONE);
        Due.is("22 k", x.fits(1, 0, 0, 0), Due.NONE);
        Due.is("22 letter", x.fits(0, 0, 2, 0), Due.NONE);
        Due.is("22 letter", x.fits(0, 0, -1, 0), Due.NONE);
        Due.is("22 what", x.fits(0, 0, 0, 2), Due.NONE);
        Due.is("22 what", x.fits(0, 0, 0, -1), Due.NONE);
    }

    /** "were each that of the GENERATOR there alone, all of SEEN would be so": each power 0 .. 9 is tried by hand. */
    private static void fitsByTrying() {
        int[][] ideals = {{3, 20}, {55, 27, 88}, {90, 9, 51, 14, 22, 31}, {40}, {6}, {99, 0}, {12, 21}};
        int[][] rows = {{0, 5, 6}, {0, 2, 5}, {0, 1, 2}, {3, 8, 6}, {1, 98, 99}, {9, 10, 4}, {0, 1, 9}, {99, 99, 1}, {18, 20, 9}, {0, 4, 10}};
        for (int[] ideal : ideals) {
            for (int[] row : rows) {
                TermIdeals x = Due.with(ideal, ideal);
                x.see(row[0], row[1], row[2]);
                for (int k = 0; k < ideal.length; k++) {
                    fitsAsTried(x, ideal, row, k, 0);
                    fitsAsTried(x, ideal, row, k, 1);
                }
            }
        }
    }

    private static void fitsAsTried(TermIdeals x, int[] ideal, int[] row, int k, int letter) {
        int many = 0;
        int least = -5;
        int unlike = 0;
        for (int power = 9; power >= 0; power--) {
            int[] then = ideal.clone();
            then[k] = letter == 0 ? 10 * power + ideal[k] % 10 : ideal[k] / 10 * 10 + power;
            TermIdeals tried = Due.with(then);
            if (tried.told(0, 0) < ideal.length) {
                continue;
            }
            unlike++;
            if (row[2] * tried.jumps(0, row[0], 0) == row[1] * tried.jumps(0, row[0], 1) && tried.jumps(0, row[0], 0) != Due.NO) {
                many++;
                least = power;
            }
        }
        Due.is("22 tried, how many", x.fits(0, k, letter, 0), many);
        Due.is("22 tried, the least", x.fits(0, k, letter, 1), least);
        boolean isSo = row[2] * x.jumps(0, row[0], 0) == row[1] * x.jumps(0, row[0], 1) && x.jumps(0, row[0], 0) != Due.NO;
        Due.is("22 of IDEAL 1, IDEAL 0 stays as it is", x.fits(1, k, letter, 0), isSo ? unlike : 0);
    }

    private static void odds() {
        TermIdeals x = Due.with(3, 20);
        fraction("23 all but one", x.odds(0, 1, 1, 0), x.odds(0, 1, 1, 1), 99, 100);
        fraction("23 lowest terms", x.odds(0, 2, 1, 0), x.odds(0, 2, 1, 1), 23, 25);
        fraction("23 none", x.odds(0, 99, 1, 0), x.odds(0, 99, 1, 1), 0, 1);
        fraction("23 all", x.odds(0, 1, 99, 0), x.odds(0, 1, 99, 1), 1, 1);
        fraction("23 all TERMS", Due.with(0).odds(0, 99, 1, 0), Due.with(0).odds(0, 99, 1, 1), 1, 1);
        Due.is("23 ideal", x.odds(2, 1, 1, 0), Due.NO);
        Due.is("23 ideal", x.odds(-1, 1, 1, 0), Due.NO);
        Due.is("23 num", x.odds(0, 0, 1, 0), Due.NO);
        Due.is("23 num", x.odds(0, 100, 1, 0), Due.NO);
        Due.is("23 den", x.odds(0, 1, 0, 0), Due.NO);
        Due.is("23 den", x.odds(0, 1, 100, 0), Due.NO);
        Due.is("23 part", x.odds(0, 1, 1, 2), Due.NO);
        Due.is("23 part", x.odds(0, 1, 1, -1), Due.NO);
        Due.is("23 empty", x.odds(1, 1, 1, 0), Due.NO);
    }

    private static void mean() {
        TermIdeals x = Due.with(new int[] {3, 20}, new int[] {99, 98, 97, 96, 95, 94});
        fraction("24 two", x.mean(0, 0), x.mean(0, 1), 5, 2);
        fraction("24 six", x.mean(1, 0), x.mean(1, 1), 31, 2);
        fraction("24 nothing", Due.with(0).mean(0, 0), Due.with(0).mean(0, 1), 0, 1);
        fraction("24 whole", Due.with(1, 2, 3).mean(0, 0), Due.with(1, 2, 3).mean(0, 1), 2, 1);
        Due.is("24 ideal", x.mean(2, 0), Due.NO);
        Due.is("24 ideal", x.mean(-1, 0), Due.NO);
        Due.is("24 part", x.mean(0, 2), Due.NO);
        Due.is("24 part", x.mean(0, -1), Due.NO);
        Due.is("24 empty", new TermIdeals().mean(0, 0), Due.NO);
    }

    private static void fraction(String what, long above, long below, long wantAbove, long wantBelow) {
        Due.is(what + ", above", above, wantAbove);
        Due.is(what + ", below", below, wantBelow);
    }
}

/** Promises 19 and 20: height, reduces. */
public final class ProductsTest {
    public static void main(String[] args) {
        heights();
        emptyOnes();
        powers();
        heightRefusals();
        reduction();
        met();
        Due.end("ProductsTest");
    }

    private static void row(String what, TermIdeals x, int ideal, int code, int... want) {
        for (int a = 0; a < want.length; a++) {
            Due.is(what + " at " + a, x.height(ideal, code, a), want[a]);
        }
        Due.is(what + " at 60", x.height(ideal, code, 60), want[want.length - 1]);
    }

    private static void heights() {
        TermIdeals x = Due.with(new int[] {17, 34, 29}, new int[] {25, 41});
        row("19 HEIGHT of 0", x, 0, 0, -5, 7, 7, 4, 4);
        row("19 HEIGHT of 1", x, 1, 0, -5, -5, 5, 5, 1, 1);
        row("19 SUM", x, 0, 1, -5, 7, 5, 4, 1, 1);
        row("19 SUM, asked by 1", x, 1, 1, -5, 7, 5, 4, 1, 1);
        row("19 PRODUCT", x, 0, 2, -5, -5, -5, 12, 12, 8, 8, 5, 5);
        row("19 PRODUCT, asked by 1", x, 1, 2, -5, -5, -5, 12, 12, 8, 8, 5, 5);
    }

    private static void emptyOnes() {
        TermIdeals x = Due.with(23);
        row("19 SUM with an empty one", x, 0, 1, -5, -5, 3, 3);
        row("19 SUM with an empty one", x, 1, 1, -5, -5, 3, 3);
        row("19 PRODUCT with an empty one", x, 0, 2, -5, -5, -5, -5);
        row("19 PRODUCT with an empty one", x, 1, 2, -5, -5, -5, -5);
        row("19 HEIGHT of an empty one", x, 1, 0, -5, -5);
        row("19 POWER 0 of an empty one", x, 1, 10, 0, 0);
        row("19 POWER 1 of an empty one", x, 1, 11, -5, -5);
        row("19 POWER 6 of an empty one", x, 1, 16, -5, -5);
        TermIdeals y = new TermIdeals();
        row("19 SUM of empty ones", y, 0, 1, -5, -5);
    }

    private static void powers() {
        TermIdeals x = Due.with(3, 20);
        row("19 POWER 0", x, 0, 10, 0, 0);
        row("19 POWER 1", x, 0, 11, 3, 3, 0);
        row("19 POWER 2", x, 0, 12, 6, 6, 3, 3, 0);
        row("19 POWER 3", x, 0, 13, 9, 9, 6, 6, 3, 3, 0);
        TermIdeals far = Due.with(new int[] {90, 9}, new int[] {99});
        Due.is("19 POWER 6 at 53", far.height(0, 16, 53), 9);
        Due.is("19 POWER 6 at 54", far.height(0, 16, 54), 0);
        Due.is("19 POWER 6 at 44", far.height(0, 16, 44), 18);
        Due.is("19 POWER 6 at 0", far.height(0, 16, 0), 54);
        Due.is("19 POWER 6 of 99", far.height(1, 16, 53), -5);
        Due.is("19 POWER 6 of 99", far.height(1, 16, 54), 54);
        Due.is("19 POWER 4 of 99", far.height(1, 14, 36), 36);
        Due.is("19 POWER 5 of 99", far.height(1, 15, 44), -5);
    }

    private static void heightRefusals() {
        TermIdeals x = Due.with(new int[] {3}, new int[] {20});
        for (int ideal : new int[] {-1, 2, Due.LOW, Due.HIGH}) {
            for (int what : new int[] {0, 1, 2, 10, 16}) {
                Due.is("19 ideal", x.height(ideal, what, 61), Due.NONE);
            }
        }
        for (int what : new int[] {-1, 3, 9, 17, Due.LOW, Due.HIGH}) {
            Due.is("19 what", x.height(0, what, -1), Due.NONE);
        }
        for (int a : new int[] {-1, 61, Due.LOW, Due.HIGH}) {
            for (int what : new int[] {0, 1, 2, 10, 16}) {
                Due.is("19 a", x.height(1, what, a), Due.BAD);
            }
        }
    }

    private static int reduces(int what, int[] zero, int[] one) {
        return Due.with(zero, one).reduces(what);
    }

    private static void reduction() {
        Due.is("20 what", reduces(2, new int[] {3}, new int[] {3}), Due.NONE);
        Due.is("20 what", reduces(-1, new int[] {3}, new int[] {3}), Due.NONE);
        Due.is("20 neither has GENERATORS", reduces(0, new int[] {}, new int[] {}), 0);
        Due.is("20 0 has none", reduces(0, new int[] {}, new int[] {3}), 0);
        Due.is("20 1 has none", reduces(0, new int[] {3}, new int[] {}), 0);
        Due.is("20 first of 0 not IN 1", reduces(0, new int[] {12, 3, 20}, new int[] {3, 20}), 0);
        Due.is("20 one GENERATOR", reduces(0, new int[] {20}, new int[] {20}), 1);
        Due.is("20 itself", reduces(0, new int[] {3, 20}, new int[] {20, 3}), 1);
        Due.is("20 its CLOSURE", reduces(0, new int[] {3, 20}, new int[] {3, 20, 12}), 1);
        Due.is("20 beyond the CLOSURE", reduces(0, new int[] {3, 20}, new int[] {3, 20, 11}), 0);
        Due.is("20 not IN 1", reduces(0, new int[] {3, 20, 12}, new int[] {3, 20}), 0);
        Due.is("20 IN 1, no GENERATOR of it", reduces(0, new int[] {3, 20, 55}, new int[] {3, 20, 12}), 1);
        Due.is("20 less by s 1", reduces(0, new int[] {20}, new int[] {10}), 0);
        Due.is("20 less by t 1", reduces(0, new int[] {2}, new int[] {1}), 0);
    }

    private static void met() {
        Due.is("20 MET: neither", reduces(1, new int[] {}, new int[] {}), 0);
        Due.is("20 MET: 0 has none", reduces(1, new int[] {}, new int[] {3}), -5);
        Due.is("20 MET: 1 has none", reduces(1, new int[] {3}, new int[] {}), 1);
        Due.is("20 MET: alike", reduces(1, new int[] {3, 20, 33}, new int[] {20, 3}), 0);
        Due.is("20 MET: once", reduces(1, new int[] {3, 20}, new int[] {3, 20, 12}), 1);
        Due.is("20 MET: no REDUCTION", reduces(1, new int[] {3, 20}, new int[] {11}), -5);
        Due.is("20 MET: unlike at 0 alone", reduces(1, new int[] {2, 10}, new int[] {1, 10}), -5);
        Due.is("20 MET: unlike at 54 alone", reduces(1, new int[] {91, 1}, new int[] {90, 1}), -5);
        TermIdeals again = Due.with(new int[] {3, 20}, new int[] {3, 20, 12});
        for (int i = 0; i < 3; i++) {
            again.height(0, 16, 0);
            Due.is("20 MET: asked again", again.reduces(1), 1);
        }
        // of 0n and n0 by n0, 0n and 1 n-1: that one's n-th power is the first that is made of the others
        for (int n = 2; n <= 9; n++) {
            int[] zero = {n, 10 * n};
            int[] one = {n, 10 * n, 10 + n - 1};
            Due.is("20 MET: " + n, reduces(1, zero, one), n - 1 <= 5 ? n - 1 : -5);
            Due.is("20 REDUCTION: " + n, reduces(0, zero, one), 1);
        }
    }
}

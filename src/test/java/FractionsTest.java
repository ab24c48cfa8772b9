/** Promises 14 to 18: held, reason, jump, jumps, lacks. */
public final class FractionsTest {
    public static void main(String[] args) {
        held();
        reason();
        jump();
        jumps();
        lacks();
        refusals();
        Due.end("FractionsTest");
    }

    private static void held() {
        TermIdeals x = Due.with(3, 20);
        Due.is("14 at its JUMP", x.held(0, 0, 0, 5, 6), 0);
        Due.is("14 just below", x.held(0, 0, 0, 82, 99), 1);
        Due.is("14 just above", x.held(0, 0, 0, 83, 99), 0);
        Due.is("14 not in lowest terms", x.held(0, 0, 0, 10, 12), 0);
        Due.is("14 far", x.held(0, 9, 9, 99, 1), 0);
        Due.is("14 far", x.held(0, 9, 9, 50, 6), 0);
        Due.is("14 far", x.held(0, 9, 9, 49, 6), 1);
        Due.is("14 all TERMS", Due.with(0).held(0, 0, 0, 99, 1), 1);
        Due.is("14 a level of 0 bars nothing", Due.with(10).held(0, 1, 0, 1, 1), 1);
        Due.is("14 a level above 0 bars", Due.with(10).held(0, 1, 0, 2, 1), 0);
        Due.is("14 straight face", Due.with(90).held(0, 8, 0, 1, 1), 0);
        Due.is("14 straight face", Due.with(90).held(0, 9, 0, 1, 1), 1);
        Due.is("14 straight face", Due.with(9).held(0, 0, 8, 1, 1), 0);
        Due.is("14 the other", Due.with(new int[] {0}, new int[] {10}).held(1, 0, 0, 1, 1), 0);
    }

    private static void reason() {
        TermIdeals x = Due.with(55, 27);
        // faces 1 0 LEVEL 2, 2 3 LEVEL 25, 0 1 LEVEL 5
        reasons("15 HELD by all", x, 0, 9, 4, 9, new int[] {-5, -5, -5, -5, -5});
        reasons("15 by the first", x, 0, 9, 3, 6, new int[] {0, 1, 2, 3, 6});
        reasons("15 by the first of two", x, 0, 0, 8, 9, new int[] {0, 1, 2, 8, 9});
        reasons("15 by the slanted", x, 3, 3, 20, 25, new int[] {1, 20, 25, 20, 25});
        reasons("15 HELD", x, 3, 3, 19, 25, new int[] {-5, -5, -5, -5, -5});
        reasons("15 by the last", x, 9, 0, 2, 4, new int[] {2, 1, 5, 2, 4});
        reasons("15 told as told", Due.with(3, 20), 0, 0, 60, 72, new int[] {1, 5, 6, 60, 72});
        reasons("15 all TERMS", Due.with(0), 0, 0, 99, 1, new int[] {-5, -5, -5, -5, -5});
    }

    private static void reasons(String what, TermIdeals x, int a, int b, int num, int den, int[] want) {
        for (int i = 0; i < 5; i++) {
            Due.is(what + ", " + i, x.reason(0, a, b, num, den, i), want[i]);
        }
    }

    private static void jump() {
        TermIdeals x = Due.with(3, 20);
        fraction("16 corner", x.jump(0, 0, 0, 0), x.jump(0, 0, 0, 1), 5, 6);
        fraction("16 lowest terms", x.jump(0, 0, 1, 0), x.jump(0, 0, 1, 1), 7, 6);
        fraction("16 lowest terms", x.jump(0, 1, 0, 0), x.jump(0, 1, 0, 1), 4, 3);
        fraction("16 whole", x.jump(0, 1, 2, 0), x.jump(0, 1, 2, 1), 2, 1);
        fraction("16 last", x.jump(0, 9, 9, 0), x.jump(0, 9, 9, 1), 25, 3);
        Due.is("16 all TERMS", Due.with(0).jump(0, 0, 0, 0), Due.NO);
        TermIdeals y = Due.with(55, 27);
        fraction("16 by s 1", y.jump(0, 0, 9, 0), y.jump(0, 0, 9, 1), 1, 2);
        fraction("16 by t 1", y.jump(0, 9, 0, 0), y.jump(0, 9, 0, 1), 1, 5);
        fraction("16 slanted", y.jump(0, 3, 3, 0), y.jump(0, 3, 3, 1), 4, 5);
        fraction("16 one GENERATOR", Due.with(90).jump(0, 1, 7, 0), Due.with(90).jump(0, 1, 7, 1), 2, 9);
        TermIdeals five = Due.with(9, 15, 23, 32, 51, 90);
        // by 4 1, 2 1, 1 1, 1 2, 1 4 of LEVEL 9, 7, 5, 7, 9
        fraction("16 by 4 1", five.jump(0, 0, 9, 0), five.jump(0, 0, 9, 1), 14, 9);
        fraction("16 by 2 1", five.jump(0, 1, 3, 0), five.jump(0, 1, 3, 1), 8, 7);
        fraction("16 by 1 1", five.jump(0, 0, 0, 0), five.jump(0, 0, 0, 1), 2, 5);
        fraction("16 by 1 2", five.jump(0, 3, 1, 0), five.jump(0, 3, 1, 1), 8, 7);
        fraction("16 by 1 4", five.jump(0, 9, 0, 0), five.jump(0, 9, 0, 1), 14, 9);
    }

    private static void jumps() {
        TermIdeals one = Due.with(20);
        for (int i = 0; i < 10; i++) {
            int divisor = i % 2 == 1 ? 2 : 1;
            fraction("17 a by 2", one.jumps(0, i, 0), one.jumps(0, i, 1), (i + 1) / divisor, 2 / divisor);
        }
        Due.is("17 not as many", one.jumps(0, 10, 0), Due.NO);
        Due.is("17 below", one.jumps(0, -1, 0), Due.NO);
        Due.is("17 far", one.jumps(0, Due.HIGH, 1), Due.NO);
        Due.is("17 all TERMS", Due.with(0).jumps(0, 0, 0), Due.NO);
        TermIdeals x = Due.with(3, 20);
        long[][] first = {{5, 6}, {7, 6}, {4, 3}, {3, 2}, {5, 3}, {11, 6}, {2, 1}};
        for (int i = 0; i < first.length; i++) {
            fraction("17 JUMP " + i, x.jumps(0, i, 0), x.jumps(0, i, 1), first[i][0], first[i][1]);
        }
        fraction("17 last", x.jumps(0, 43, 0), x.jumps(0, 43, 1), 25, 3);
        Due.is("17 behind the last", x.jumps(0, 44, 0), Due.NO);
    }

    private static void fraction(String what, long above, long below, long wantAbove, long wantBelow) {
        Due.is(what + ", above", above, wantAbove);
        Due.is(what + ", below", below, wantBelow);
    }

    private static void lacks() {
        TermIdeals x = Due.with(3, 20);
        Due.is("18 below all", x.lacks(0, 1, 99), 0);
        Due.is("18 at the first JUMP", x.lacks(0, 5, 6), 1);
        Due.is("18 at 1", x.lacks(0, 1, 1), 1);
        Due.is("18 at 2", x.lacks(0, 2, 1), 8);
        Due.is("18 above all", x.lacks(0, 99, 1), 100);
        Due.is("18 all TERMS", Due.with(0).lacks(0, 99, 1), 0);
        Due.is("18 one letter", Due.with(10).lacks(0, 3, 1), 30);
    }

    private static void refusals() {
        TermIdeals x = Due.with(3, 20);
        int[][] badTerms = {{-1, 0}, {10, 0}, {0, -1}, {0, 10}, {Due.LOW, Due.HIGH}};
        for (int[] t : badTerms) {
            Due.is("14 a, b", x.held(0, t[0], t[1], 1, 1), Due.BAD);
            Due.is("15 a, b", x.reason(0, t[0], t[1], 1, 1, 0), Due.BAD);
            Due.is("16 a, b", x.jump(0, t[0], t[1], 0), Due.NO);
        }
        int[][] badFractions = {{0, 1}, {100, 1}, {1, 0}, {1, 100}, {-1, -1}, {Due.HIGH, Due.LOW}};
        for (int[] c : badFractions) {
            Due.is("14 num, den", x.held(0, 0, 0, c[0], c[1]), Due.BAD);
            Due.is("14 BAD ahead of STATE", x.held(1, 0, 0, c[0], c[1]), Due.BAD);
            Due.is("15 num, den", x.reason(0, 0, 0, c[0], c[1], 0), Due.BAD);
            Due.is("15 BAD ahead of STATE", x.reason(1, 0, 0, c[0], c[1], 0), Due.BAD);
            Due.is("15 i ahead of BAD", x.reason(0, 0, 0, c[0], c[1], 5), Due.NONE);
            Due.is("18 num, den", x.lacks(0, c[0], c[1]), Due.BAD);
            Due.is("18 BAD ahead of STATE", x.lacks(1, c[0], c[1]), Due.BAD);
        }
        for (int ideal : new int[] {-1, 2, Due.LOW, Due.HIGH}) {
            Due.is("14 ideal", x.held(ideal, 10, 0, 0, 0), Due.NONE);
            Due.is("15 ideal", x.reason(ideal, 10, 0, 0, 0, 0), Due.NONE);
            Due.is("16 ideal", x.jump(ideal, 0, 0, 0), Due.NO);
            Due.is("17 ideal", x.jumps(ideal, 0, 0), Due.NO);
            Due.is("18 ideal", x.lacks(ideal, 0, 0), Due.NONE);
        }
        Due.is("15 i", x.reason(0, 0, 0, 5, 6, -1), Due.NONE);
        Due.is("15 i", x.reason(0, 0, 0, 5, 6, 5), Due.NONE);
        Due.is("16 part", x.jump(0, 0, 0, 2), Due.NO);
        Due.is("16 part", x.jump(0, 0, 0, -1), Due.NO);
        Due.is("17 part", x.jumps(0, 0, 2), Due.NO);
        Due.is("17 part", x.jumps(0, 0, -1), Due.NO);
        Due.is("14 empty", x.held(1, 0, 0, 1, 1), Due.STATE);
        Due.is("15 empty", x.reason(1, 0, 0, 1, 1, 0), Due.STATE);
        Due.is("16 empty", x.jump(1, 0, 0, 0), Due.NO);
        Due.is("17 empty", x.jumps(1, 0, 0), Due.NO);
        Due.is("18 empty", x.lacks(1, 1, 1), Due.STATE);
    }
}

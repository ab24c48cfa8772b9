/** Promises 10 to 13: of, told, in, face. */
public final class ToldTest {
    public static void main(String[] args) {
        of();
        told();
        closed();
        in();
        face();
        faceOrder();
        Due.end("ToldTest");
    }

    private static void of() {
        TermIdeals x = Due.with(new int[] {35, 44, 36, 90}, new int[] {7});
        Due.is("10 ideal", x.of(2, 0, 0), Due.NONE);
        Due.is("10 ideal", x.of(-1, 0, 0), Due.NONE);
        Due.is("10 k", x.of(0, 4, 0), Due.NONE);
        Due.is("10 k", x.of(0, -1, 0), Due.NONE);
        Due.is("10 k of the other", x.of(1, 1, 0), Due.NONE);
        Due.is("10 what", x.of(0, 0, 3), Due.NONE);
        Due.is("10 what", x.of(0, 0, -1), Due.NONE);
        Due.is("10 a", x.of(0, 0, 0), 3);
        Due.is("10 b", x.of(0, 0, 1), 5);
        Due.is("10 LEAST", x.of(0, 0, 2), 1);
        Due.is("10 LEAST", x.of(0, 1, 2), 1);
        Due.is("10 not LEAST", x.of(0, 2, 2), 0);
        Due.is("10 LEAST", x.of(0, 3, 2), 1);
        Due.is("10 the other", x.of(1, 0, 1), 7);
        Due.is("10 not LEAST by like b", Due.with(55, 35).of(0, 0, 2), 0);
        Due.is("10 LEAST beside it", Due.with(55, 35).of(0, 1, 2), 1);
        Due.is("10 not LEAST by like a", Due.with(55, 53).of(0, 0, 2), 0);
    }

    private static void told() {
        TermIdeals x = Due.with(3, 20, 33);
        Due.is("11 ideal", x.told(2, 0), Due.NONE);
        Due.is("11 ideal", x.told(-1, 0), Due.NONE);
        Due.is("11 what", x.told(0, 5), Due.NONE);
        Due.is("11 what", x.told(0, -1), Due.NONE);
        Due.is("11 what ahead of STATE", x.told(1, 5), Due.NONE);
        Due.is("11 GENERATORS", x.told(0, 0), 3);
        Due.is("11 LEAST", x.told(0, 1), 2);
        Due.is("11 FACES", x.told(0, 2), 3);
        Due.is("11 CLOSED", x.told(0, 3), 0);
        Due.is("11 JUMPS", x.told(0, 4), 44);
        Due.is("11 empty", x.told(1, 0), 0);
        Due.is("11 empty", x.told(1, 1), 0);
        Due.is("11 empty", x.told(1, 2), Due.STATE);
        Due.is("11 empty", x.told(1, 3), Due.STATE);
        Due.is("11 empty", x.told(1, 4), Due.STATE);
        Due.is("11 all TERMS: FACES", Due.with(0).told(0, 2), 2);
        Due.is("11 all TERMS: JUMPS", Due.with(0).told(0, 4), 0);
        Due.is("11 one letter: JUMPS", Due.with(10).told(0, 4), 10);
        // the least of a + 1 and b + 1: ten of them
        Due.is("11 both letters: JUMPS", Due.with(11).told(0, 4), 10);
    }

    private static void closed() {
        Due.is("11 one is CLOSED", Due.with(57).told(0, 3), 1);
        Due.is("11 all TERMS", Due.with(0, 99).told(0, 3), 1);
        Due.is("11 two side by side", Due.with(45, 54).told(0, 3), 1);
        Due.is("11 two apart", Due.with(46, 64).told(0, 3), 0);
        Due.is("11 filled", Due.with(46, 64, 55).told(0, 3), 1);
        Due.is("11 with gaps", Due.with(9, 90, 81, 72, 63, 54).told(0, 3), 0);
    }

    private static void in() {
        TermIdeals x = Due.with(3, 20);
        Due.is("12 ideal", x.in(2, 0, 0, 0), Due.NONE);
        Due.is("12 ideal", x.in(-1, 0, 0, 0), Due.NONE);
        Due.is("12 what", x.in(0, 0, 0, 2), Due.NONE);
        Due.is("12 what", x.in(0, 0, 0, -1), Due.NONE);
        Due.is("12 what ahead of a", x.in(0, 10, 0, 2), Due.NONE);
        Due.is("12 a", x.in(0, 10, 0, 0), Due.BAD);
        Due.is("12 a", x.in(0, -1, 0, 0), Due.BAD);
        Due.is("12 b", x.in(0, 0, 10, 1), Due.BAD);
        Due.is("12 b", x.in(0, 0, -1, 1), Due.BAD);
        Due.is("12 BAD ahead of STATE", x.in(1, 0, 10, 1), Due.BAD);
        Due.is("12 empty", x.in(1, 0, 0, 1), Due.STATE);
        Due.is("12 empty", x.in(1, 9, 9, 0), 0);
        int[][] terms = {{0, 2, 0, 0}, {0, 3, 1, 1}, {1, 1, 0, 0}, {1, 2, 0, 1}, {1, 3, 1, 1}, {2, 0, 1, 1}, {1, 0, 0, 0}, {9, 9, 1, 1}};
        for (int[] row : terms) {
            Due.is("12 IN " + row[0] + row[1], x.in(0, row[0], row[1], 0), row[2]);
            Due.is("12 CLOSURE " + row[0] + row[1], x.in(0, row[0], row[1], 1), row[3]);
        }
        TermIdeals two = Due.with(new int[] {3, 20}, new int[] {90});
        Due.is("12 of IDEAL 0", two.in(0, 1, 2, 1), 1);
        Due.is("12 of IDEAL 1", two.in(1, 1, 2, 1), 0);
        Due.is("12 of IDEAL 1", two.in(1, 9, 0, 1), 1);
    }

    private static void face() {
        TermIdeals x = Due.with(55, 27, 88);
        Due.is("13 ideal", x.face(2, 0, 0), Due.NONE);
        Due.is("13 ideal", x.face(-1, 0, 0), Due.NONE);
        Due.is("13 STATE ahead of i", x.face(1, -1, 7), Due.STATE);
        Due.is("13 i", x.face(0, 3, 0), Due.NONE);
        Due.is("13 i", x.face(0, -1, 0), Due.NONE);
        Due.is("13 what", x.face(0, 0, 3), Due.NONE);
        Due.is("13 what", x.face(0, 0, -1), Due.NONE);
        faces("13 one slanted", x, new int[][] {{1, 0, 2}, {2, 3, 25}, {0, 1, 5}});
        faces("13 none slanted", Due.with(57, 79), new int[][] {{1, 0, 5}, {0, 1, 7}});
        faces("13 steepest", Due.with(9, 10), new int[][] {{1, 0, 0}, {9, 1, 9}, {0, 1, 0}});
        faces("13 flattest", Due.with(90, 1), new int[][] {{1, 0, 0}, {1, 9, 9}, {0, 1, 0}});
        faces("13 lowest terms", Due.with(6, 90), new int[][] {{1, 0, 0}, {2, 3, 18}, {0, 1, 0}});
        faces("13 three on one", Due.with(8, 44, 80), new int[][] {{1, 0, 0}, {1, 1, 8}, {0, 1, 0}});
    }

    private static void faceOrder() {
        faces("13 five corners, one TERM behind them", Due.with(90, 9, 51, 14, 22, 31),
            new int[][] {{1, 0, 0}, {5, 1, 9}, {2, 1, 6}, {1, 1, 4}, {1, 6, 9}, {0, 1, 0}});
        faces("13 six corners", Due.with(9, 15, 23, 32, 51, 90),
            new int[][] {{1, 0, 0}, {4, 1, 9}, {2, 1, 7}, {1, 1, 5}, {1, 2, 7}, {1, 4, 9}, {0, 1, 0}});
    }

    private static void faces(String what, TermIdeals x, int[][] want) {
        Due.is(what + ": many", x.told(0, 2), want.length);
        for (int i = 0; i < want.length; i++) {
            for (int part = 0; part < 3; part++) {
                Due.is(what + ": face " + i + ", " + part, x.face(0, i, part), want[i][part]);
            }
        }
        Due.is(what + ": no more", x.face(0, want.length, 0), Due.NONE);
    }
}

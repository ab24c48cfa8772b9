/** Promises 1 to 7: a new object, generate, drop, clear, merge, close, back. */
public final class GeneratorsTest {
    public static void main(String[] args) {
        newObject();
        generate();
        drop();
        clear();
        merge();
        close();
        back();
        backIsOfOneIdeal();
        refusedIsNoDeed();
        Due.end("GeneratorsTest");
    }

    private static void newObject() {
        TermIdeals x = new TermIdeals();
        for (int ideal = 0; ideal <= 1; ideal++) {
            Due.is("1 GENERATORS", x.told(ideal, 0), 0);
            Due.is("1 IN", x.in(ideal, 9, 9, 0), 0);
        }
        for (int what = 0; what <= 4; what++) {
            Due.is("1 count " + what, x.count(what), 0);
        }
        for (int tape = 0; tape <= 5; tape++) {
            Due.is("1 tape " + tape, x.item(tape, 0, 1L), Due.NOTHING);
        }
        Due.is("1 no image", x.undo(), Due.STATE);
        Due.is("1 objects are apart", Due.with(11).told(0, 0) + new TermIdeals().told(0, 0), 1);
        Due.is("1 NONE", TermIdeals.NONE, -1);
        Due.is("1 BAD", TermIdeals.BAD, -2);
        Due.is("1 STATE", TermIdeals.STATE, -3);
        Due.is("1 FULL", TermIdeals.FULL, -4);
        Due.is("1 NO", TermIdeals.NO, Long.MIN_VALUE);
    }

    private static void generate() {
        TermIdeals x = new TermIdeals();
        Due.is("2 ideal 2", x.generate(2, 0, 0), Due.NONE);
        Due.is("2 ideal -1", x.generate(-1, 0, 0), Due.NONE);
        Due.is("2 ideal ahead of a", x.generate(Due.LOW, 10, 0), Due.NONE);
        Due.is("2 a 10", x.generate(0, 10, 0), Due.BAD);
        Due.is("2 a -1", x.generate(0, -1, 0), Due.BAD);
        Due.is("2 b 10", x.generate(0, 0, 10), Due.BAD);
        Due.is("2 b -1", x.generate(0, 0, -1), Due.BAD);
        Due.is("2 far", x.generate(0, Due.HIGH, Due.LOW), Due.BAD);
        Due.is("2 first", x.generate(0, 9, 0), 1);
        Due.is("2 second", x.generate(0, 0, 9), 2);
        Due.is("2 as one", x.generate(0, 9, 0), Due.STATE);
        Due.is("2 letters turned", x.generate(0, 9, 9), 3);
        Due.is("2 in the other one", x.generate(1, 9, 0), 1);
        Due.is("2 BAD ahead of FULL", x.generate(0, 10, 10), Due.BAD);
        for (int b = 1; b <= 3; b++) {
            Due.is("2 more", x.generate(0, 5, b), 3 + b);
        }
        Due.is("2 seventh", x.generate(0, 1, 1), Due.FULL);
        Due.is("2 STATE ahead of FULL", x.generate(0, 0, 9), Due.STATE);
        Due.generators("2 as they came", x, 0, "90 09 99 51 52 53");
        Due.generators("2 the other", x, 1, "90");
    }

    private static void drop() {
        TermIdeals x = Due.with(new int[] {11, 22, 33, 44}, new int[] {55});
        Due.is("3 ideal", x.drop(2, 0), Due.NONE);
        Due.is("3 ideal -1", x.drop(-1, 0), Due.NONE);
        Due.is("3 k behind", x.drop(0, 4), Due.NONE);
        Due.is("3 k below", x.drop(0, -1), Due.NONE);
        Due.is("3 k far", x.drop(0, Due.HIGH), Due.NONE);
        Due.is("3 k of the other", x.drop(1, 1), Due.NONE);
        Due.is("3 middle", x.drop(0, 1), 3);
        Due.generators("3 one less", x, 0, "11 33 44");
        Due.is("3 last", x.drop(0, 2), 2);
        Due.is("3 first", x.drop(0, 0), 1);
        Due.generators("3 left", x, 0, "33");
        Due.is("3 only", x.drop(0, 0), 0);
        Due.is("3 none", x.drop(0, 0), Due.NONE);
        Due.generators("3 the other", x, 1, "55");
    }

    private static void clear() {
        TermIdeals x = Due.with(new int[] {11, 22, 33}, new int[] {55});
        Due.is("4 ideal", x.clear(2), Due.NONE);
        Due.is("4 ideal", x.clear(-1), Due.NONE);
        Due.is("4 had", x.clear(0), 3);
        Due.is("4 none", x.clear(0), Due.STATE);
        Due.is("4 is empty", x.told(0, 0), 0);
        Due.is("4 the other", x.told(1, 0), 1);
        Due.is("4 DEEDS", x.count(4), 5);
        Due.is("4 goes on", x.generate(0, 1, 1), 1);
    }

    private static void merge() {
        TermIdeals x = Due.with(new int[] {11, 22, 33, 44}, new int[] {55, 22, 66});
        Due.is("5 ideal", x.merge(2), Due.NONE);
        Due.is("5 ideal", x.merge(-1), Due.NONE);
        Due.is("5 six", x.merge(0), 6);
        Due.generators("5 behind", x, 0, "11 22 33 44 55 66");
        Due.generators("5 the other stays", x, 1, "55 22 66");
        Due.is("5 again", x.merge(0), 6);
        Due.is("5 is a DEED", x.count(4), 9);
        Due.is("5 six to a part of them", x.merge(1), 6);
        Due.generators("5 order", x, 1, "55 22 66 11 33 44");
        TermIdeals y = Due.with(new int[] {11, 22, 33, 44}, new int[] {55, 66, 77});
        Due.is("5 seven", y.merge(0), Due.FULL);
        Due.is("5 seven", y.merge(1), Due.FULL);
        Due.is("5 refused is no DEED", y.count(4), 7);
        Due.generators("5 refused changes nothing", y, 0, "11 22 33 44");
        Due.is("5 both empty", new TermIdeals().merge(1), 0);
    }

    private static void close() {
        Due.is("6 ideal", Due.with(11).close(2), Due.NONE);
        Due.is("6 ideal", Due.with(11).close(-1), Due.NONE);
        Due.is("6 empty", Due.with(11).close(1), Due.STATE);
        TermIdeals x = Due.with(3, 20);
        Due.is("6 cusp", x.close(0), 3);
        Due.generators("6 cusp", x, 0, "03 12 20");
        Due.is("6 again", x.close(0), 3);
        Due.is("6 is a DEED", x.count(4), 4);
        TermIdeals far = Due.with(99, 9, 90, 55);
        Due.is("6 full", far.close(0), Due.FULL);
        Due.generators("6 refused changes nothing", far, 0, "99 09 90 55");
        TermIdeals six = Due.with(50, 5, 99);
        Due.is("6 six", six.close(0), 6);
        Due.generators("6 least a first", six, 0, "05 14 23 32 41 50");
        TermIdeals away = Due.with(55, 27, 88);
        Due.is("6 apart from the edges", away.close(0), 3);
        Due.generators("6 apart from the edges", away, 0, "27 46 55");
        Due.is("6 all TERMS", Due.with(12, 0).close(0), 1);
        for (int term : new int[] {0, 9, 90, 99}) {
            TermIdeals edge = Due.with(term);
            Due.is("6 one, at the edge", edge.close(0), 1);
            Due.generators("6 one, at the edge", edge, 0, term < 10 ? "0" + term : "" + term);
        }
        Due.is("6 seven", Due.with(6, 60).close(0), Due.FULL);
        Due.is("6 seven, up to 9", Due.with(39, 93).close(0), Due.FULL);
        TermIdeals high = Due.with(49, 94);
        Due.is("6 six, up to 9", high.close(0), 6);
        Due.generators("6 six, up to 9", high, 0, "49 58 67 76 85 94");
    }

    private static void back() {
        TermIdeals x = new TermIdeals();
        Due.is("7 none", x.back(), Due.STATE);
        for (int i = 0; i < 6; i++) {
            x.generate(0, i, 9 - i);
            x.generate(1, i, i);
        }
        Due.is("7 ten of twelve", x.count(4), 10);
        for (int i = 9; i >= 7; i--) {
            Due.is("7 back", x.back(), i);
        }
        Due.generators("7 three back", x, 0, "09 18 27 36 45");
        Due.generators("7 three back", x, 1, "00 11 22 33");
        x.generate(0, 9, 9);
        Due.is("7 eight", x.count(4), 8);
        for (int i = 7; i >= 0; i--) {
            Due.is("7 back", x.back(), i);
        }
        Due.is("7 gone for good", x.back(), Due.STATE);
        Due.generators("7 what the oldest left", x, 0, "09");
        Due.generators("7 what the oldest left", x, 1, "00");
    }

    private static void backIsOfOneIdeal() {
        TermIdeals x = Due.with(new int[] {3, 20, 99}, new int[] {55});
        x.drop(0, 1);
        Due.is("7 drop", x.back(), 4);
        Due.generators("7 drop", x, 0, "03 20 99");
        x.clear(0);
        Due.is("7 clear", x.back(), 4);
        Due.generators("7 clear", x, 0, "03 20 99");
        x.merge(1);
        Due.is("7 merge", x.back(), 4);
        Due.generators("7 merge", x, 1, "55");
        x.close(0);
        Due.is("7 close", x.back(), 4);
        Due.generators("7 close", x, 0, "03 20 99");
        Due.generators("7 the other stays", x, 1, "55");
    }

    private static void refusedIsNoDeed() {
        TermIdeals x = Due.with(11);
        x.generate(0, 1, 1);
        x.generate(0, 10, 1);
        x.drop(0, 1);
        x.clear(1);
        x.close(1);
        x.merge(2);
        Due.is("7 refused is no DEED", x.count(4), 1);
        Due.is("7 back is no DEED", x.back(), 0);
        Due.is("7 back is no DEED", x.count(4), 0);
    }
}

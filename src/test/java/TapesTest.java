/** Promises 29 to 36: judge, image, undo, count, tape, item, peek, shift. */
public final class TapesTest {
    public static void main(String[] args) {
        judge();
        judgeEnds();
        image();
        imageTwice();
        imageOfRows();
        count();
        tape();
        item();
        peek();
        shift();
        shiftRefusals();
        Due.end("TapesTest");
    }

    private static void fill(TermIdeals x, int tape, int... items) {
        x.tape(tape, 0, items.length);
        for (int i = 0; i < items.length; i++) {
            x.item(tape, i, items[i]);
        }
    }

    private static void judge() {
        TermIdeals x = Due.with(17, 34);
        Due.is("29 ideal", x.judge(2, 0, 0), Due.NONE);
        Due.is("29 ideal", x.judge(-1, 0, 0), Due.NONE);
        Due.is("29 tape", x.judge(0, 6, 0), Due.NONE);
        Due.is("29 tape", x.judge(0, -1, 0), Due.NONE);
        Due.is("29 holds nothing", x.judge(0, 0, 0), 100);
        for (int sort = 1; sort <= 4; sort++) {
            x.tape(1, sort, 60);
            Due.is("29 no bytes", x.judge(0, 1, 0), Due.CAST);
            Due.is("29 no bytes ahead of the place", x.judge(0, 1, -1), Due.CAST);
        }
        fill(x, 2, 9, -5, 7, 7, 4, 4, 4, 4, 4, 4, 4, 0);
        Due.is("29 all as told", x.judge(0, 2, 1), -5);
        Due.is("29 first is otherwise", x.judge(0, 2, 0), 0);
        x.item(2, 10, 5);
        Due.is("29 last is otherwise", x.judge(0, 2, 1), 9);
        x.item(2, 3, 5);
        Due.is("29 the first otherwise", x.judge(0, 2, 1), 2);
        fill(x, 3, -5, -5, -5, -5, -5, -5, -5, -5, -5, -5);
        Due.is("29 empty one", x.judge(1, 3, 0), -5);
        Due.is("29 none is told as -5", x.judge(0, 3, 0), 1);
    }

    private static void judgeEnds() {
        TermIdeals x = Due.with(17, 34);
        fill(x, 0, -5, 7, 7, 4, 4, 4, 4, 4, 4);
        Due.is("29 ends at nine", x.judge(0, 0, 0), 109);
        Due.is("29 place below", x.judge(0, 0, -1), 100);
        Due.is("29 place far below", x.judge(0, 0, Due.LOW), 100);
        Due.is("29 place at the end", x.judge(0, 0, 9), 100);
        Due.is("29 place far behind", x.judge(0, 0, Due.HIGH), 100);
        x.item(0, 8, 3);
        Due.is("29 otherwise ahead of the end", x.judge(0, 0, 0), 8);
        x.tape(0, 0, 0);
        Due.is("29 of length 0", x.judge(0, 0, 0), 100);
        x.tape(0, -1, 0);
        Due.is("29 nothing", x.judge(0, 0, Due.HIGH), 100);
    }

    private static void image() {
        TermIdeals x = Due.with(new int[] {3, 20}, new int[] {11});
        Due.is("31 none", x.undo(), Due.STATE);
        x.see(0, 5, 6);
        x.event(0, 12);
        x.book(3, 1);
        x.feed('u');
        x.tape(0, 0, 3);
        Due.is("30 both", x.image(), 3);
        Due.is("30 DEEDS stay", x.count(4), 3);
        x.clear(0);
        x.generate(1, 2, 2);
        x.see(1, 1, 1);
        x.event(1, 0);
        x.book(0, 1);
        x.feed('u');
        x.tape(0, 0, 4);
        Due.is("31 both", x.undo(), 3);
        Due.generators("31 GENERATORS", x, 0, "03 20");
        Due.generators("31 GENERATORS", x, 1, "11");
        Due.is("31 SEEN", x.count(0), 1);
        Due.is("31 SEEN", x.fits(0, 0, 1, 1), 3);
        Due.is("31 EVENTS", x.count(1), 1);
        Due.is("31 EVENTS", x.after(2), 1);
        Due.is("31 BOOK", x.count(2), 1);
        Due.is("31 BOOK", x.looked(), -5);
        Due.is("31 TEXT stays", x.count(3), 2);
        Due.is("31 TAPES stay", x.item(0, 3, 1L), 1);
        Due.is("31 no DEED", x.count(4), 0);
        Due.is("31 no DEED", x.back(), Due.STATE);
    }

    private static void imageTwice() {
        TermIdeals x = new TermIdeals();
        Due.is("30 empty", x.image(), 0);
        x.generate(0, 1, 1);
        x.see(0, 1, 1);
        Due.is("31 empty", x.undo(), 0);
        Due.is("31 SEEN", x.count(0), 0);
        x.generate(0, 2, 2);
        Due.is("31 DEEDS from then on", x.count(4), 1);
        Due.is("31 again", x.undo(), 0);
        x.generate(0, 3, 3);
        x.generate(1, 3, 4);
        Due.is("30 anew", x.image(), 2);
        x.back();
        x.back();
        Due.is("31 anew", x.undo(), 2);
        Due.generators("31 anew", x, 0, "33");
        Due.generators("31 anew", x, 1, "34");
    }

    /** The rows told before THE IMAGE come again, though others were told in their places. */
    private static void imageOfRows() {
        TermIdeals x = Due.with(3, 20);
        x.see(0, 5, 6);
        x.see(1, 7, 6);
        x.event(0, 12);
        x.event(0, 99);
        x.book(3, 1);
        x.book(2, 1);
        x.image();
        Due.is("31 EVENTS", x.after(0), 4);
        x.see(-1, 0, 0);
        x.event(-1, 0);
        x.book(-1, 0);
        for (int i = 0; i < 3; i++) {
            x.see(99, 1, 99);
            x.event(1, 0);
            x.book(0, 1);
        }
        Due.is("31 other rows", x.fits(0, 0, 1, 0), 0);
        Due.is("31 other rows", x.after(0), 0);
        Due.is("31 other rows", x.looked(), 0);
        x.undo();
        Due.is("31 rows of SEEN", x.fits(0, 0, 1, 1), 3);
        Due.is("31 rows of EVENTS", x.after(0), 4);
        Due.is("31 rows of EVENTS", x.after(2), 1);
        Due.is("31 rows of the BOOK", x.looked(), 1);
        x.see(1, 7, 5);
        Due.is("31 rows of SEEN go on", x.count(0), 3);
        x.undo();
        Due.is("31 THE IMAGE stays", x.fits(0, 0, 1, 1), 3);
        Due.is("31 THE IMAGE stays", x.count(0), 2);
    }

    private static void count() {
        TermIdeals x = Due.with(1, 2, 3, 4, 5);
        x.see(0, 1, 1);
        x.event(0, 1);
        x.event(0, 1);
        x.book(0, 1);
        x.book(0, 1);
        x.book(0, 1);
        for (int i = 0; i < 4; i++) {
            x.feed(0);
        }
        for (int what = 0; what <= 4; what++) {
            Due.is("32 count " + what, x.count(what), what + 1);
        }
        for (int what : new int[] {-1, 5, Due.LOW, Due.HIGH}) {
            Due.is("32 what", x.count(what), Due.BAD);
        }
    }

    private static void tape() {
        TermIdeals x = new TermIdeals();
        Due.is("33 tape", x.tape(6, 9, 90), Due.NONE);
        Due.is("33 tape", x.tape(-1, 0, 0), Due.NONE);
        Due.is("33 sort", x.tape(0, 5, 1), Due.BAD);
        Due.is("33 sort", x.tape(0, -2, 1), Due.BAD);
        Due.is("33 sort ahead of SIZE", x.tape(0, 5, -1), Due.BAD);
        Due.is("33 n", x.tape(0, 0, 61), Due.BAD);
        Due.is("33 n", x.tape(0, 0, Due.HIGH), Due.BAD);
        Due.is("33 size", x.tape(0, 0, -1), Due.SIZE);
        Due.is("33 size", x.tape(0, 4, Due.LOW), Due.SIZE);
        Due.is("33 refused changes nothing", x.item(0, 0, 1L), Due.NOTHING);
        for (int tape = 0; tape <= 5; tape++) {
            Due.is("33 sixty", x.tape(tape, tape % 5, 60), 1);
            Due.is("33 all 0", x.peek(tape, 59), 0);
            Due.is("33 sixty", x.item(tape, 59, 1L), 1);
            Due.is("33 sixty", x.item(tape, 60, 1L), Due.PLACE);
        }
        Due.is("33 anew", x.tape(0, 0, 60), 1);
        Due.is("33 all 0 again", x.peek(0, 59), 0);
        for (int i = 0; i < 60; i++) {
            x.item(0, i, 7L);
        }
        x.tape(0, 3, 60);
        for (int i = 0; i < 60; i++) {
            Due.is("33 each is 0", x.peek(0, i), 0);
        }
        Due.is("33 of length 0", x.tape(1, 1, 0), 1);
        Due.is("33 of length 0", x.item(1, 0, 0L), Due.PLACE);
        for (int n : new int[] {0, -1, 61, Due.LOW, Due.HIGH}) {
            x.tape(2, 2, 2);
            Due.is("33 nothing", x.tape(2, -1, n), 1);
            Due.is("33 nothing", x.item(2, 0, 0L), Due.NOTHING);
        }
    }

    private static void item() {
        long[] values = {0L, 1L, -1L, 127L, 128L, 255L, 256L, 32767L, 32768L, 65536L, 1L << 31, 1L << 32, -(1L << 33), Due.NO, Long.MAX_VALUE};
        TermIdeals x = new TermIdeals();
        Due.is("34 tape", x.item(6, 0, 1L), Due.NONE);
        Due.is("34 tape", x.item(-1, 0, 1L), Due.NONE);
        Due.is("34 nothing ahead of the place", x.item(0, -1, 1L), Due.NOTHING);
        for (int sort = 0; sort <= 4; sort++) {
            x.tape(sort, sort, 3);
            for (long v : values) {
                long want = sort == 0 ? (byte) v : sort == 1 ? (short) v : sort == 2 ? (int) v : sort == 3 ? v : v != 0 ? 1 : 0;
                Due.is("34 item", x.item(sort, 1, v), 1);
                Due.is("34 item of sort " + sort, x.peek(sort, 1), want);
                Due.is("34 beside it", x.peek(sort, 0) | x.peek(sort, 2), 0);
            }
            for (int i : new int[] {-1, 3, Due.LOW, Due.HIGH}) {
                Due.is("34 place", x.item(sort, i, 1L), Due.PLACE);
            }
        }
    }

    private static void peek() {
        TermIdeals x = new TermIdeals();
        x.tape(0, 3, 2);
        x.item(0, 1, 77L);
        Due.is("35 tape", x.peek(6, 0), Due.NO);
        Due.is("35 tape", x.peek(-1, 0), Due.NO);
        Due.is("35 nothing", x.peek(1, 0), Due.NO);
        Due.is("35 place", x.peek(0, 2), Due.NO);
        Due.is("35 place", x.peek(0, -1), Due.NO);
        Due.is("35 place", x.peek(0, Due.HIGH), Due.NO);
        Due.is("35 item", x.peek(0, 1), 77);
        Due.is("35 item", x.peek(0, 0), 0);
    }

    private static void row(String what, TermIdeals x, int tape, int... want) {
        for (int i = 0; i < want.length; i++) {
            Due.is(what + ", item " + i, x.peek(tape, i), want[i]);
        }
    }

    private static void shift() {
        TermIdeals x = new TermIdeals();
        fill(x, 0, 1, 2, 3, 4, 5);
        fill(x, 1, 9, 9, 9);
        Due.is("36 to another", x.shift(0, 1, 1, 0, 2), 2);
        row("36 to another", x, 1, 2, 3, 9);
        row("36 the first stays", x, 0, 1, 2, 3, 4, 5);
        Due.is("36 up in the same", x.shift(0, 0, 0, 1, 4), 4);
        row("36 up in the same", x, 0, 1, 1, 2, 3, 4);
        fill(x, 0, 1, 2, 3, 4, 5);
        Due.is("36 down in the same", x.shift(0, 1, 0, 0, 4), 4);
        row("36 down in the same", x, 0, 2, 3, 4, 5, 5);
        Due.is("36 none, at the ends", x.shift(0, 5, 1, 3, 0), 0);
        Due.is("36 up to the ends", x.shift(0, 2, 1, 0, 3), 3);
        row("36 up to the ends", x, 1, 4, 5, 5);
    }

    private static void shiftRefusals() {
        TermIdeals x = new TermIdeals();
        fill(x, 0, 1, 2, 3, 4, 5);
        fill(x, 1, 9, 9, 9);
        x.tape(2, 1, 5);
        Due.is("36 tapes", x.shift(6, 0, 0, 0, 0), Due.NONE);
        Due.is("36 tapes", x.shift(-1, 0, 0, 0, 0), Due.NONE);
        Due.is("36 tapes", x.shift(0, 0, 6, 0, 0), Due.NONE);
        Due.is("36 tapes ahead of nothing", x.shift(3, 0, -1, 0, 0), Due.NONE);
        Due.is("36 nothing", x.shift(3, 0, 0, 0, 0), Due.NOTHING);
        Due.is("36 nothing there", x.shift(0, -1, 3, 0, 0), Due.NOTHING);
        Due.is("36 nothing in both", x.shift(3, 0, 4, 0, 0), Due.NOTHING);
        Due.is("36 sorts ahead of the place", x.shift(0, -1, 2, 0, 0), Due.CAST);
        int[][] bad = {
            {-1, 0, 1}, {0, -1, 1}, {0, 0, -1}, {5, 0, 1}, {6, 0, 0}, {0, 4, 0}, {0, 3, 1}, {3, 0, 3}, {0, 0, 4}, {0, 0, 6},
            {Due.HIGH, 0, Due.HIGH}, {0, Due.HIGH, Due.HIGH}, {1, 1, Due.HIGH}, {Due.LOW, Due.LOW, Due.LOW}
        };
        for (int[] row : bad) {
            Due.is("36 place " + row[0] + " " + row[1] + " " + row[2], x.shift(0, row[0], 1, row[1], row[2]), Due.PLACE);
        }
        row("36 refused changes nothing", x, 1, 9, 9, 9);
        row("36 refused changes nothing", x, 0, 1, 2, 3, 4, 5);
    }
}

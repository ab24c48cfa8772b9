import java.util.function.ToLongFunction;

/**
 * The refusals of each call, at the edges of what it takes and far beyond them, in the order in which they are
 * asked; and what stands after each of them is what stood before.
 */
public final class RefusedTest {
    private static final int[] NO_IDEALS = {-1, 2, 256, 1 << 16, Due.LOW, Due.HIGH};
    private static final int[] NO_POWERS = {-1, 10, 256, 1 << 16, Due.LOW, Due.HIGH};
    private static final int[][] NO_TERMS = {{-1, 0}, {10, 0}, {0, -1}, {0, 10}, {-1, 10}, {1, -10}, {Due.LOW, Due.HIGH}, {256, 256}};
    private static final int[][] NO_FRACTIONS = {
        {0, 1}, {-1, 1}, {100, 1}, {1, 0}, {1, -1}, {1, 100}, {-1, -1}, {0, 0}, {257, 257}, {Due.LOW, Due.HIGH}
    };
    private static final int[] NO_FLAGS = {-1, 2, 256, Due.LOW, Due.HIGH};
    private static final int[] NO_TAPES = {-1, 6, 256, Due.LOW, Due.HIGH};

    private final String name;
    private final Stand.Run state;
    private final String before;

    private RefusedTest(String name, Stand.Run state) {
        this.name = name;
        this.state = state;
        before = Stand.of(state);
    }

    public static void main(String[] args) {
        RefusedTest fresh = new RefusedTest("new", States::fresh);
        RefusedTest some = new RefusedTest("some", States::some);
        RefusedTest full = new RefusedTest("full", States::full);
        for (RefusedTest each : new RefusedTest[] {fresh, some, full}) {
            each.ideals();
            each.terms();
            each.fractions();
            each.numbers();
            each.rows();
            each.tapes();
        }
        fresh.none();
        some.half();
        some.someTapes();
        full.noRoom();
        full.fullTapes();
        looksAreSharp();
        Due.end("RefusedTest");
    }

    private void refused(String call, long due, ToLongFunction<TermIdeals> run) {
        TermIdeals x = new TermIdeals();
        state.on(x);
        Due.is(name + ": " + call, run.applyAsLong(x), due);
        Due.same(name + ": " + call + " changes nothing", Stand.of(y -> {
            state.on(y);
            run.applyAsLong(y);
        }), before);
    }

    /** An IDEAL that isn't 0 or 1 is asked ahead of all else, whatever else is wrong, too. */
    private void ideals() {
        for (int i : NO_IDEALS) {
            refused("generate, ideal " + i, Due.NONE, x -> x.generate(i, 10, -1));
            refused("drop, ideal " + i, Due.NONE, x -> x.drop(i, 0));
            refused("clear, ideal " + i, Due.NONE, x -> x.clear(i));
            refused("merge, ideal " + i, Due.NONE, x -> x.merge(i));
            refused("close, ideal " + i, Due.NONE, x -> x.close(i));
            refused("of, ideal " + i, Due.NONE, x -> x.of(i, 0, 0));
            refused("told, ideal " + i, Due.NONE, x -> x.told(i, 0));
            refused("told, ideal " + i + ", its FACES", Due.NONE, x -> x.told(i, 2));
            refused("in, ideal " + i, Due.NONE, x -> x.in(i, 10, -1, 1));
            refused("face, ideal " + i, Due.NONE, x -> x.face(i, 0, 0));
            refused("held, ideal " + i, Due.NONE, x -> x.held(i, 10, -1, 0, 0));
            refused("reason, ideal " + i, Due.NONE, x -> x.reason(i, 10, -1, 0, 0, 0));
            refused("jump, ideal " + i, Due.NO, x -> x.jump(i, 0, 0, 0));
            refused("jumps, ideal " + i, Due.NO, x -> x.jumps(i, 0, 0));
            refused("lacks, ideal " + i, Due.NONE, x -> x.lacks(i, 0, 0));
            for (int what : new int[] {0, 1, 2, 10, 16}) {
                refused("height, ideal " + i + ", what " + what, Due.NONE, x -> x.height(i, what, 61));
            }
            refused("fits, ideal " + i, Due.NONE, x -> x.fits(i, 0, 0, 0));
            refused("odds, ideal " + i, Due.NO, x -> x.odds(i, 1, 1, 0));
            refused("mean, ideal " + i, Due.NO, x -> x.mean(i, 0));
            refused("judge, ideal " + i, Due.NONE, x -> x.judge(i, 1, 0));
        }
    }

    /** Powers that aren't 0 .. 9: BAD also where the IDEAL has no GENERATORS, or no room. */
    private void terms() {
        for (int[] t : NO_TERMS) {
            String is = " a " + t[0] + ", b " + t[1];
            for (int ideal = 0; ideal <= 1; ideal++) {
                int i = ideal;
                refused("generate" + is, Due.BAD, x -> x.generate(i, t[0], t[1]));
                refused("in, IN" + is, Due.BAD, x -> x.in(i, t[0], t[1], 0));
                refused("in, CLOSURE" + is, Due.BAD, x -> x.in(i, t[0], t[1], 1));
                refused("held" + is, Due.BAD, x -> x.held(i, t[0], t[1], 1, 1));
                refused("reason" + is, Due.BAD, x -> x.reason(i, t[0], t[1], 1, 1, 0));
                refused("reason, no such i ahead of" + is, Due.NONE, x -> x.reason(i, t[0], t[1], 1, 1, 5));
                refused("jump" + is, Due.NO, x -> x.jump(i, t[0], t[1], 0));
            }
            refused("in, no such what ahead of" + is, Due.NONE, x -> x.in(0, t[0], t[1], 2));
        }
        for (int power : NO_POWERS) {
            refused("generate, a " + power, Due.BAD, x -> x.generate(1, power, 9));
            refused("generate, b " + power, Due.BAD, x -> x.generate(1, 9, power));
        }
    }

    /** Numbers above and below the line that aren't 1 .. 99. */
    private void fractions() {
        for (int[] c : NO_FRACTIONS) {
            String is = " " + c[0] + " by " + c[1];
            for (int ideal = 0; ideal <= 1; ideal++) {
                int i = ideal;
                refused("held AT" + is, Due.BAD, x -> x.held(i, 0, 0, c[0], c[1]));
                refused("reason AT" + is, Due.BAD, x -> x.reason(i, 0, 0, c[0], c[1], 4));
                refused("lacks AT" + is, Due.BAD, x -> x.lacks(i, c[0], c[1]));
                refused("odds AT" + is, Due.NO, x -> x.odds(i, c[0], c[1], 1));
            }
            refused("reason, no such i ahead of" + is, Due.NONE, x -> x.reason(0, 0, 0, c[0], c[1], -1));
            refused("see" + is, Due.BAD, x -> x.see(0, c[0], c[1]));
            refused("see, no such i ahead of" + is, Due.NONE, x -> x.see(100, c[0], c[1]));
        }
    }

    /** What is asked for by a number that nothing has. */
    private void numbers() {
        for (int k : new int[] {-1, 6, 256, Due.LOW, Due.HIGH}) {
            refused("drop, k " + k, Due.NONE, x -> x.drop(0, k));
            refused("of, k " + k, Due.NONE, x -> x.of(0, k, 0));
            refused("fits, k " + k, Due.NONE, x -> x.fits(0, k, 0, 0));
        }
        for (int i : new int[] {-1, 5, 256, Due.LOW, Due.HIGH}) {
            refused("told, what " + i, Due.NONE, x -> x.told(0, i));
            refused("told, what " + i + " of the other", Due.NONE, x -> x.told(1, i));
            refused("reason, i " + i, Due.NONE, x -> x.reason(0, 0, 0, 1, 1, i));
            refused("reason, i " + i + " of the other", Due.NONE, x -> x.reason(1, 0, 0, 1, 1, i));
            refused("count, what " + i, Due.BAD, x -> x.count(i));
        }
        for (int what : NO_FLAGS) {
            refused("in, what " + what, Due.NONE, x -> x.in(0, 0, 0, what));
            refused("in, what " + what + " of the other", Due.NONE, x -> x.in(1, 0, 0, what));
            refused("jump, part " + what, Due.NO, x -> x.jump(0, 0, 0, what));
            refused("jumps, part " + what, Due.NO, x -> x.jumps(0, 0, what));
            refused("odds, part " + what, Due.NO, x -> x.odds(0, 1, 1, what));
            refused("mean, part " + what, Due.NO, x -> x.mean(0, what));
            refused("reduces, what " + what, Due.NONE, x -> x.reduces(what));
            refused("fits, letter " + what, Due.NONE, x -> x.fits(0, 0, what, 0));
            refused("fits, what " + what, Due.NONE, x -> x.fits(0, 0, 0, what));
        }
        for (int what : new int[] {-1, 3, 256, Due.LOW, Due.HIGH}) {
            refused("of, what " + what, Due.NONE, x -> x.of(0, 0, what));
            refused("after, what " + what, Due.NONE, x -> x.after(what));
        }
        for (int what : new int[] {-1, 3, 9, 17, 256, Due.LOW, Due.HIGH}) {
            refused("height, what " + what, Due.NONE, x -> x.height(0, what, 0));
            refused("height, what " + what + " ahead of a", Due.NONE, x -> x.height(0, what, 61));
        }
        for (int a : new int[] {-1, 61, 256, Due.LOW, Due.HIGH}) {
            for (int what : new int[] {0, 1, 2, 10, 16}) {
                refused("height, what " + what + ", a " + a, Due.BAD, x -> x.height(1, what, a));
            }
        }
    }

    /** Rows of THE TEXT, SEEN, EVENTS and the BOOK that can't be, whether there is room or not. */
    private void rows() {
        for (int sign : new int[] {-1, 128, 256 + 'u', -128, Due.LOW, Due.HIGH}) {
            refused("feed " + sign, Due.BAD, x -> x.feed(sign));
        }
        for (int i : new int[] {-2, 100, 256, Due.LOW, Due.HIGH}) {
            refused("see, i " + i, Due.NONE, x -> x.see(i, 1, 1));
            refused("book, term " + i, Due.NONE, x -> x.book(i, 0));
            refused("book, term " + i + " ahead of is", Due.NONE, x -> x.book(i, 2));
        }
        for (int is : NO_FLAGS) {
            refused("book, is " + is, Due.BAD, x -> x.book(0, is));
        }
        for (int what : new int[] {-2, 3, 256, Due.LOW, Due.HIGH}) {
            refused("event, what " + what, Due.NONE, x -> x.event(what, 1));
            refused("event, what " + what + " ahead of n", Due.NONE, x -> x.event(what, -1));
        }
        int[][] events = {
            {0, -1}, {0, 100}, {0, Due.LOW}, {0, Due.HIGH}, {1, -1}, {1, 6}, {1, Due.LOW}, {1, Due.HIGH},
            {2, 0}, {2, -1}, {2, 10}, {2, Due.LOW}, {2, Due.HIGH}, {0, 256}, {1, 256}, {2, 257}
        };
        for (int[] e : events) {
            refused("event " + e[0] + ", n " + e[1], Due.BAD, x -> x.event(e[0], e[1]));
        }
    }

    private void tapes() {
        for (int t : NO_TAPES) {
            refused("judge, tape " + t, Due.NONE, x -> x.judge(0, t, 0));
            refused("tape " + t, Due.NONE, x -> x.tape(t, 5, 61));
            refused("tape " + t + " to hold nothing", Due.NONE, x -> x.tape(t, -1, 0));
            refused("tape " + t + " of a size below 0", Due.NONE, x -> x.tape(t, 0, -1));
            refused("item, tape " + t, Due.NONE, x -> x.item(t, -1, 1L));
            refused("peek, tape " + t, Due.NO, x -> x.peek(t, 0));
            for (int there = 0; there <= 5; there++) {
                int other = there;
                refused("shift from tape " + t, Due.NONE, x -> x.shift(t, -1, other, -1, -1));
                refused("shift to tape " + t, Due.NONE, x -> x.shift(other, -1, t, -1, -1));
            }
        }
        for (int tape = 0; tape <= 5; tape++) {
            int t = tape;
            for (int sort : new int[] {-2, 5, 256, Due.LOW, Due.HIGH}) {
                refused("tape, sort " + sort, Due.BAD, x -> x.tape(t, sort, 1));
                refused("tape, sort " + sort + " ahead of SIZE", Due.BAD, x -> x.tape(t, sort, -1));
            }
            for (int sort = 0; sort <= 4; sort++) {
                int s = sort;
                for (int n : new int[] {61, 256, Due.HIGH}) {
                    refused("tape, n " + n, Due.BAD, x -> x.tape(t, s, n));
                }
                for (int n : new int[] {-1, -256, Due.LOW}) {
                    refused("tape, n " + n, Due.SIZE, x -> x.tape(t, s, n));
                }
            }
        }
    }

    /** What a new object refuses for there is nothing yet. */
    private void none() {
        refused("back without DEEDS", Due.STATE, x -> x.back());
        refused("undo without THE IMAGE", Due.STATE, x -> x.undo());
        for (int ideal = 0; ideal <= 1; ideal++) {
            withoutGenerators(ideal);
        }
        refused("after, JUMPS", Due.STATE, x -> x.after(1));
        refused("after, CLOSED", Due.STATE, x -> x.after(2));
        for (int tape = 0; tape <= 5; tape++) {
            nothingThere(tape);
        }
        refused("read of no TEXT", -10, x -> x.read());
    }

    private void withoutGenerators(int ideal) {
        String is = " of IDEAL " + ideal + " without GENERATORS";
        refused("drop" + is, Due.NONE, x -> x.drop(ideal, 0));
        refused("clear" + is, Due.STATE, x -> x.clear(ideal));
        refused("close" + is, Due.STATE, x -> x.close(ideal));
        refused("of" + is, Due.NONE, x -> x.of(ideal, 0, 0));
        for (int what = 2; what <= 4; what++) {
            int w = what;
            refused("told " + w + is, Due.STATE, x -> x.told(ideal, w));
        }
        refused("in, CLOSURE" + is, Due.STATE, x -> x.in(ideal, 9, 9, 1));
        refused("face" + is, Due.STATE, x -> x.face(ideal, 0, 0));
        refused("face" + is + " ahead of i, what", Due.STATE, x -> x.face(ideal, -1, 3));
        refused("held" + is, Due.STATE, x -> x.held(ideal, 0, 0, 1, 1));
        refused("reason" + is, Due.STATE, x -> x.reason(ideal, 0, 0, 1, 1, 0));
        refused("jump" + is, Due.NO, x -> x.jump(ideal, 0, 0, 0));
        refused("jumps" + is, Due.NO, x -> x.jumps(ideal, 0, 0));
        refused("lacks" + is, Due.STATE, x -> x.lacks(ideal, 1, 1));
        refused("fits" + is, Due.NONE, x -> x.fits(ideal, 0, 0, 0));
        refused("odds" + is, Due.NO, x -> x.odds(ideal, 1, 1, 0));
        refused("mean" + is, Due.NO, x -> x.mean(ideal, 0));
    }

    private void nothingThere(int tape) {
        refused("item of TAPE " + tape + " with nothing", Due.NOTHING, x -> x.item(tape, 0, 1L));
        refused("item of TAPE " + tape + " with nothing, place below", Due.NOTHING, x -> x.item(tape, -1, 1L));
        refused("peek of TAPE " + tape + " with nothing", Due.NO, x -> x.peek(tape, 0));
        refused("shift within TAPE " + tape + " with nothing", Due.NOTHING, x -> x.shift(tape, -1, tape, -1, -1));
    }

    private void half() {
        refused("generate what is one", Due.STATE, x -> x.generate(0, 2, 0));
        refused("drop behind the last", Due.NONE, x -> x.drop(0, 2));
        refused("drop of the other", Due.NONE, x -> x.drop(1, 0));
        refused("of behind the last", Due.NONE, x -> x.of(0, 2, 0));
        refused("fits behind the last", Due.NONE, x -> x.fits(0, 2, 0, 0));
        withoutGenerators(1);
        refused("undo without THE IMAGE", Due.STATE, x -> x.undo());
        for (int i : new int[] {-1, 3, 256, Due.LOW, Due.HIGH}) {
            refused("face, i " + i, Due.NONE, x -> x.face(0, i, 0));
            refused("face, what " + i, Due.NONE, x -> x.face(0, 0, i));
        }
        for (int i : new int[] {-1, 44, 100, Due.LOW, Due.HIGH}) {
            refused("jumps, i " + i, Due.NO, x -> x.jumps(0, i, 0));
        }
        Stand.Run none = x -> {
            States.some(x);
            x.event(2, 9);
            for (int i = 0; i < 2; i++) {
                x.event(1, 0);
            }
        };
        RefusedTest events = new RefusedTest("some, EVENTS that leave none", none);
        events.refused("after, JUMPS", Due.STATE, x -> x.after(1));
        events.refused("after, CLOSED", Due.STATE, x -> x.after(2));
    }

    private void someTapes() {
        for (int tape = 2; tape <= 5; tape++) {
            nothingThere(tape);
            int t = tape;
            refused("shift to nothing", Due.NOTHING, x -> x.shift(0, 0, t, 0, 0));
            refused("shift from nothing", Due.NOTHING, x -> x.shift(t, 0, 0, 0, 0));
        }
        for (int i : new int[] {-1, 5, 256, Due.LOW, Due.HIGH}) {
            refused("item, place " + i, Due.PLACE, x -> x.item(0, i, 1L));
            refused("peek, place " + i, Due.NO, x -> x.peek(0, i));
        }
        refused("judge shorts", Due.CAST, x -> x.judge(0, 1, 0));
        refused("judge shorts, place below", Due.CAST, x -> x.judge(0, 1, -1));
        refused("judge shorts, place behind", Due.CAST, x -> x.judge(0, 1, 3));
        refused("shift to another sort", Due.CAST, x -> x.shift(0, 0, 1, 0, 1));
        refused("shift of another sort, no such place", Due.CAST, x -> x.shift(1, -1, 0, 4, 99));
        // i, j, n within TAPE 0 of five bytes: below 0, beyond the end, together beyond it, together beyond an int
        int[][] places = {
            {-1, 0, 1}, {0, -1, 1}, {0, 0, -1}, {5, 0, 1}, {0, 5, 1}, {6, 0, 0}, {0, 6, 0}, {0, 0, 6}, {1, 0, 5}, {0, 1, 5}, {-1, 0, 0},
            {0, -1, 0}, {Due.HIGH, 0, 1}, {0, Due.HIGH, 1}, {1, 0, Due.HIGH}, {0, 1, Due.HIGH}, {Due.HIGH, 0, Due.HIGH},
            {0, Due.HIGH, Due.HIGH}, {Due.LOW, 0, 1}, {0, Due.LOW, 1}, {0, 0, Due.LOW}, {5, 5, -5}, {Due.LOW, Due.LOW, Due.LOW}
        };
        for (int[] p : places) {
            refused("shift, i " + p[0] + ", j " + p[1] + ", n " + p[2], Due.PLACE, x -> x.shift(0, p[0], 0, p[1], p[2]));
        }
    }

    /** Where there is no room: what is named ahead of FULL is asked ahead of it. */
    private void noRoom() {
        refused("generate the seventh", Due.FULL, x -> x.generate(0, 0, 0));
        refused("generate the seventh of the other", Due.FULL, x -> x.generate(1, 0, 0));
        refused("generate what is one", Due.STATE, x -> x.generate(0, 5, 4));
        refused("generate what is one of the other", Due.STATE, x -> x.generate(1, 8, 8));
        refused("merge twelve", Due.FULL, x -> x.merge(0));
        refused("merge twelve", Due.FULL, x -> x.merge(1));
        refused("close to ten", Due.FULL, x -> x.close(0));
        refused("close to eight", Due.FULL, x -> x.close(1));
        refused("feed the 101st", Due.FULL, x -> x.feed(0));
        refused("feed the 101st", Due.FULL, x -> x.feed(127));
        refused("see the fifth", Due.FULL, x -> x.see(0, 1, 1));
        refused("event, the ninth", Due.FULL, x -> x.event(0, 99));
        refused("event, the ninth", Due.FULL, x -> x.event(1, 5));
        refused("event, the ninth", Due.FULL, x -> x.event(2, 9));
        refused("book, the ninth", Due.FULL, x -> x.book(99, 1));
        refused("face behind the last", Due.NONE, x -> x.face(0, 3, 0));
    }

    private void fullTapes() {
        nothingThere(5);
        for (int tape = 1; tape <= 4; tape++) {
            int t = tape;
            refused("judge sort " + t, Due.CAST, x -> x.judge(0, t, 0));
            refused("item, place 3", Due.PLACE, x -> x.item(t, 3, 1L));
            refused("item, place -1", Due.PLACE, x -> x.item(t, -1, 1L));
            refused("peek, place 3", Due.NO, x -> x.peek(t, 3));
            for (int there = 0; there <= 4; there++) {
                int other = there;
                if (other != t) {
                    refused("shift " + t + " to " + other, Due.CAST, x -> x.shift(t, 0, other, 0, 0));
                }
            }
        }
        refused("item, place 60", Due.PLACE, x -> x.item(0, 60, 1L));
        refused("peek, place 60", Due.NO, x -> x.peek(0, 60));
        refused("shift up to place 61", Due.PLACE, x -> x.shift(0, 0, 0, 1, 60));
        refused("shift from place 61", Due.PLACE, x -> x.shift(0, 1, 0, 0, 60));
    }

    /** The looks must show what a call does that isn't refused, or they would show nothing of those that are. */
    private static void looksAreSharp() {
        Stand.Run some = States::some;
        String before = Stand.of(some);
        Stand.Run[] deeds = {
            x -> x.generate(1, 9, 9), x -> x.drop(0, 1), x -> x.clear(0), x -> x.merge(1), x -> x.merge(0), x -> x.close(0), x -> x.back(),
            x -> x.feed('u'), x -> x.read(), x -> x.see(0, 5, 6), x -> x.see(-1, 0, 0), x -> x.event(1, 5), x -> x.event(-1, 0),
            x -> x.book(0, 0), x -> x.book(-1, 0), x -> x.image(), x -> x.tape(5, 4, 0), x -> x.tape(0, -1, 0), x -> x.item(0, 4, 6L),
            x -> x.shift(0, 0, 0, 1, 1)
        };
        for (int i = 0; i < deeds.length; i++) {
            Stand.Run deed = deeds[i];
            String then = Stand.of(x -> {
                some.on(x);
                deed.on(x);
            });
            Due.is("a look shows deed " + i, then.equals(before) ? 1 : 0, 0);
        }
    }
}

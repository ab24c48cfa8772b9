import java.util.Arrays;
import java.util.Random;

/** Runs of 512 calls, the same ones each time, on the class and on the Model: all answers must be alike. */
public final class RandomRunsTest {
    private static final int RUNS = 400;
    private static final int CALLS = 512;

    private final Random random;
    private final TermIdeals x = new TermIdeals();
    private final Model m = new Model();
    private final String run;

    private RandomRunsTest(int seed) {
        random = new Random(seed);
        run = "run " + seed;
    }

    public static void main(String[] args) {
        for (int seed = 0; seed < RUNS; seed++) {
            new RandomRunsTest(seed).go();
        }
        Due.end("RandomRunsTest");
    }

    private void go() {
        int calls = 0;
        int deedsWanted = 1 + random.nextInt(60);
        while (calls < CALLS) {
            calls += random.nextInt(100) < deedsWanted ? deed() : random.nextInt(12) == 0 ? tapes() : question();
        }
    }

    private int pick(int from, int to) {
        return from + random.nextInt(to - from + 1);
    }

    /** Mostly from .. to, now and then just outside, or far away. */
    private int near(int from, int to) {
        int way = random.nextInt(40);
        if (way == 0) {
            return pick(from - 2, to + 2);
        }
        if (way == 1 && random.nextInt(4) == 0) {
            return random.nextBoolean() ? Integer.MAX_VALUE - random.nextInt(3) : Integer.MIN_VALUE + random.nextInt(3);
        }
        return pick(from, to);
    }

    private int ideal() {
        return near(0, 1);
    }

    private void due(String call, long got, long want, int... with) {
        Due.is(run + ": " + call + Arrays.toString(with), got, want);
    }

    private int deed() {
        int i = ideal();
        int a = near(0, 9);
        int b = near(0, 9);
        switch (random.nextInt(14)) {
            case 0, 1, 2, 3, 4 -> due("generate", x.generate(i, a, b), m.generate(i, a, b), i, a, b);
            case 5, 6 -> {
                int k = near(0, 5);
                due("drop", x.drop(i, k), m.drop(i, k), i, k);
            }
            case 7 -> due("clear", x.clear(i), m.clear(i), i);
            case 8 -> due("merge", x.merge(i), m.merge(i), i);
            case 9 -> due("close", x.close(i), m.close(i), i);
            case 10 -> due("back", x.back(), m.back());
            case 11 -> {
                return text();
            }
            case 12 -> due("image", x.image(), m.image());
            default -> {
                if (random.nextInt(4) == 0) {
                    due("undo", x.undo(), m.undo());
                }
            }
        }
        due("told 0", x.told(0, 0), m.told(0, 0));
        return 2;
    }

    private String clause() {
        String d = "" + pick(0, 1);
        String[] all = {
            "+" + d + pick(0, 9) + pick(0, 9), "+" + d + pick(0, 3) + pick(0, 3), "-" + d + pick(0, 3), "z" + d, "c" + d, "m" + d, "u"
        };
        return all[random.nextInt(all.length)];
    }

    private int text() {
        StringBuilder signs = new StringBuilder(clause());
        int more = random.nextInt(6) == 0 ? pick(9, 14) : pick(0, 4);
        for (int i = 0; i < more; i++) {
            signs.append(';').append(clause());
        }
        if (random.nextInt(3) == 0) {
            int at = random.nextInt(signs.length());
            String odd = "+-zcmu;09 x/:";
            switch (random.nextInt(3)) {
                case 0 -> signs.setCharAt(at, odd.charAt(random.nextInt(odd.length())));
                case 1 -> signs.deleteCharAt(at);
                default -> signs.setLength(at);
            }
        }
        for (int i = 0; i < signs.length(); i++) {
            int sign = signs.charAt(i);
            due("feed", x.feed(sign), m.feed(sign), sign);
        }
        due("read " + signs, x.read(), m.read());
        return signs.length() + 1;
    }

    private int tapes() {
        int tape = near(0, 5);
        int other = near(0, 5);
        int i = near(0, 12);
        int j = near(0, 12);
        int n = near(0, 6);
        switch (random.nextInt(7)) {
            case 0 -> {
                int sort = near(-1, 4);
                int many = random.nextInt(4) == 0 ? near(0, 60) : near(8, 14);
                due("tape", x.tape(tape, sort, many), m.tape(tape, sort, many), tape, sort, many);
            }
            case 1, 2 -> {
                long v = random.nextBoolean() ? random.nextLong() : pick(-5, 9);
                due("item " + v, x.item(tape, i, v), m.item(tape, i, v), tape, i);
            }
            case 3 -> due("peek", x.peek(tape, i), m.peek(tape, i), tape, i);
            case 4 -> due("shift", x.shift(tape, i, other, j, n), m.shift(tape, i, other, j, n), tape, i, other, j, n);
            case 5 -> {
                int ideal = ideal();
                due("judge", x.judge(ideal, tape, i), m.judge(ideal, tape, i), ideal, tape, i);
            }
            default -> {
                return judgeHeights();
            }
        }
        return 1;
    }

    /** A row that tells the HEIGHTS, but for one place now and then. */
    private int judgeHeights() {
        int ideal = pick(0, 1);
        int tape = pick(0, 5);
        int from = pick(0, 3);
        int many = pick(6, 15);
        due("tape", x.tape(tape, 0, many), m.tape(tape, 0, many), tape, 0, many);
        for (int a = 0; a <= 9; a++) {
            int v = m.height(ideal, 0, a) + (random.nextInt(20) == 0 ? 1 : 0);
            due("item", x.item(tape, from + a, v), m.item(tape, from + a, v), tape, from + a, v);
        }
        due("judge", x.judge(ideal, tape, from), m.judge(ideal, tape, from), ideal, tape, from);
        return 12;
    }

    private int question() {
        return switch (random.nextInt(4)) {
            case 0 -> askTold();
            case 1 -> askFractions();
            case 2 -> askRows();
            default -> askSeen();
        };
    }

    private int askTold() {
        int i = ideal();
        int a = near(0, 9);
        int b = near(0, 9);
        int k = near(0, 5);
        int what = near(0, 4);
        switch (random.nextInt(7)) {
            case 0 -> due("of", x.of(i, k, what - 1), m.of(i, k, what - 1), i, k, what - 1);
            case 1 -> due("told", x.told(i, what), m.told(i, what), i, what);
            case 2 -> due("in", x.in(i, a, b, what / 2), m.in(i, a, b, what / 2), i, a, b, what / 2);
            case 3 -> due("face", x.face(i, k, what - 1), m.face(i, k, what - 1), i, k, what - 1);
            case 4, 5 -> {
                int code = random.nextBoolean() ? near(0, 2) : near(10, 16);
                int at = random.nextBoolean() ? near(0, 60) : near(0, 12);
                due("height", x.height(i, code, at), m.height(i, code, at), i, code, at);
            }
            default -> {
                int of = near(0, 1);
                due("reduces", x.reduces(of), m.reduces(of), of);
            }
        }
        return 1;
    }

    private int askFractions() {
        int i = ideal();
        int a = near(0, 9);
        int b = near(0, 9);
        int num = random.nextBoolean() ? near(1, 99) : near(1, 9);
        int den = random.nextBoolean() ? near(1, 99) : near(1, 9);
        int k = near(0, 4);
        int part = near(0, 1);
        if (random.nextInt(3) == 0 && m.jump(i, a, b, 0) != TermIdeals.NO) {
            num = (int) m.jump(i, a, b, 0);
            den = (int) m.jump(i, a, b, 1);
        }
        switch (random.nextInt(7)) {
            case 0 -> due("held", x.held(i, a, b, num, den), m.held(i, a, b, num, den), i, a, b, num, den);
            case 1 -> due("reason", x.reason(i, a, b, num, den, k), m.reason(i, a, b, num, den, k), i, a, b, num, den, k);
            case 2 -> due("jump", x.jump(i, a, b, part), m.jump(i, a, b, part), i, a, b, part);
            case 3 -> {
                int n = near(0, 99);
                due("jumps", x.jumps(i, n, part), m.jumps(i, n, part), i, n, part);
            }
            case 4 -> due("lacks", x.lacks(i, num, den), m.lacks(i, num, den), i, num, den);
            case 5 -> due("odds", x.odds(i, num, den, part), m.odds(i, num, den, part), i, num, den, part);
            default -> due("mean", x.mean(i, part), m.mean(i, part), i, part);
        }
        return 1;
    }

    private int askRows() {
        int what = random.nextInt(12) == 0 ? -1 : near(0, 2);
        int n = what == 0 ? near(0, 99) : what == 1 ? near(0, 5) : near(1, 9);
        int term = random.nextInt(12) == 0 ? -1 : near(0, 99);
        int is = near(0, 1);
        int ask = near(0, 2);
        int of = near(0, 4);
        switch (random.nextInt(6)) {
            case 0 -> due("event", x.event(what, n), m.event(what, n), what, n);
            case 1 -> {
                boolean isIn = m.in(0, Math.floorMod(term, 100) / 10, Math.floorMod(term, 10), 0) == 1;
                int told = random.nextInt(6) > 0 && (is == 0 || is == 1) ? (isIn ? 1 : 0) : is;
                due("book", x.book(term, told), m.book(term, told), term, told);
            }
            case 2, 3 -> due("after", x.after(ask), m.after(ask), ask);
            case 4 -> due("looked", x.looked(), m.looked());
            default -> due("count", x.count(of), m.count(of), of);
        }
        return 1;
    }

    private int askSeen() {
        int i = ideal();
        int k = near(0, 5);
        int letter = near(0, 1);
        int what = near(0, 1);
        if (random.nextInt(3) > 0) {
            due("fits", x.fits(i, k, letter, what), m.fits(i, k, letter, what), i, k, letter, what);
            return 1;
        }
        int n = random.nextInt(6) == 0 ? -1 : near(0, 99);
        int num = near(1, 99);
        int den = near(1, 99);
        int first = pick(0, 5);
        if (random.nextInt(4) > 0 && m.jumps(0, first, 0) != TermIdeals.NO && n != -1) {
            n = first;
            int times = pick(1, 2);
            num = times * (int) m.jumps(0, first, 0);
            den = times * (int) m.jumps(0, first, 1);
        }
        due("see", x.see(n, num, den), m.see(n, num, den), n, num, den);
        return 1;
    }
}

/**
 * All that can be seen of an object, also by calls that change it, as one text. Each look is at an object of its
 * own that the run has made anew, so that no look spoils another one.
 */
final class Stand {
    interface Run {
        void on(TermIdeals x);
    }

    private static final int TAPES = 6;
    private static final int[][] PROBES = {{}, {0}, {3, 20}, {11, 12, 13, 14, 15, 16}, {90, 9, 51, 14, 22, 31}};

    private final StringBuilder text = new StringBuilder();

    private Stand() {
    }

    static String of(Run run) {
        Stand stand = new Stand();
        stand.told(made(run));
        stand.deeds(made(run));
        stand.image(made(run));
        stand.text(made(run), "");
        stand.text(made(run), ";+055");
        for (int tape = 0; tape < TAPES; tape++) {
            stand.items(made(run), tape);
        }
        stand.sorts(made(run));
        stand.probes(made(run));
        TermIdeals undone = made(run);
        undone.undo();
        stand.probes(undone);
        return stand.text.toString();
    }

    private static TermIdeals made(Run run) {
        TermIdeals x = new TermIdeals();
        run.on(x);
        return x;
    }

    private void put(String name, long... answers) {
        text.append(name);
        for (long answer : answers) {
            text.append(' ').append(answer);
        }
        text.append('\n');
    }

    private void generators(TermIdeals x) {
        text.append("GENERATORS ").append(Due.generators(x, 0)).append(" / ").append(Due.generators(x, 1)).append('\n');
    }

    private void rows(TermIdeals x) {
        for (int k = 0; k < x.told(0, 0); k++) {
            put("fits", x.fits(0, k, 0, 0), x.fits(0, k, 0, 1), x.fits(0, k, 1, 0), x.fits(0, k, 1, 1));
        }
        put("after", x.after(0), x.after(1), x.after(2));
        put("looked", x.looked());
    }

    private void told(TermIdeals x) {
        put("count", x.count(0), x.count(1), x.count(2), x.count(3), x.count(4));
        generators(x);
        for (int ideal = 0; ideal <= 1; ideal++) {
            put("told", x.told(ideal, 1), x.told(ideal, 2), x.told(ideal, 3), x.told(ideal, 4));
            put("mean", x.mean(ideal, 0), x.mean(ideal, 1));
            for (int i = 0; i < x.told(ideal, 2); i++) {
                put("face", x.face(ideal, i, 0), x.face(ideal, i, 1), x.face(ideal, i, 2));
            }
        }
        put("reduces", x.reduces(0), x.reduces(1));
        rows(x);
    }

    private void deeds(TermIdeals x) {
        for (int i = 0; i < 12; i++) {
            put("back", x.back());
            generators(x);
        }
    }

    private void image(TermIdeals x) {
        put("undo", x.undo());
        put("count", x.count(0), x.count(1), x.count(2), x.count(3), x.count(4));
        generators(x);
        rows(x);
    }

    /** What THE TEXT is shows by what it does, and by where its FAULT is, also with more signs behind it. */
    private void text(TermIdeals x, String more) {
        for (int i = 0; i < more.length(); i++) {
            x.feed(more.charAt(i));
        }
        put("read", x.read(), x.count(3), x.count(4));
        generators(x);
    }

    private void items(TermIdeals x, int tape) {
        text.append("tape ").append(tape);
        for (int i = 0; i <= 60; i++) {
            text.append(' ').append(x.peek(tape, i));
        }
        text.append('\n');
    }

    private void sorts(TermIdeals x) {
        for (int tape = 0; tape < TAPES; tape++) {
            for (int other = 0; other < TAPES; other++) {
                put("shift " + tape + " " + other, x.shift(tape, 0, other, 0, 0));
            }
            put("item " + tape, x.item(tape, 0, 0x7FFFFFFFFFFFFFFEL), x.peek(tape, 0));
        }
    }

    /** EVENTS and the BOOK show by what they say of other IDEALS. */
    private void probes(TermIdeals x) {
        for (int[] probe : PROBES) {
            x.clear(0);
            for (int term : probe) {
                x.generate(0, term / 10, term % 10);
            }
            rows(x);
        }
    }
}

import java.util.ArrayList;
import java.util.List;

/** "What is asked changes nothing": all that stands behind each call that only asks stood ahead of it. */
public final class AskedTest {
    private static final int[] TERMS = {0, 3, 20, 12, 55, 99};

    private final String name;
    private final Stand.Run state;
    private final String before;

    private AskedTest(String name, Stand.Run state) {
        this.name = name;
        this.state = state;
        before = Stand.of(state);
    }

    public static void main(String[] args) {
        AskedTest[] all = {
            new AskedTest("new", States::fresh), new AskedTest("some", States::some), new AskedTest("full", States::full)
        };
        for (AskedTest each : all) {
            for (int ideal = 0; ideal <= 1; ideal++) {
                each.told(ideal);
                each.fractions(ideal);
                each.products(ideal);
                each.fitted(ideal);
            }
            each.rows();
        }
        alikeAsked();
        Due.end("AskedTest");
    }

    private void asked(String calls, Stand.Run ask) {
        Due.same(name + ": " + calls + " changes nothing", Stand.of(x -> {
            state.on(x);
            ask.on(x);
        }), before);
    }

    private void told(int ideal) {
        asked("of", x -> {
            for (int k = 0; k < 6; k++) {
                for (int what = 0; what <= 2; what++) {
                    x.of(ideal, k, what);
                }
            }
        });
        asked("told", x -> {
            for (int what = 0; what <= 4; what++) {
                x.told(ideal, what);
            }
        });
        asked("in", x -> {
            for (int term : TERMS) {
                x.in(ideal, term / 10, term % 10, 0);
                x.in(ideal, term / 10, term % 10, 1);
            }
        });
        asked("face", x -> {
            for (int i = 0; i < 7; i++) {
                for (int what = 0; what <= 2; what++) {
                    x.face(ideal, i, what);
                }
            }
        });
        asked("mean", x -> x.mean(ideal, 0));
        asked("judge", x -> {
            for (int tape = 0; tape <= 5; tape++) {
                x.judge(ideal, tape, 0);
            }
        });
    }

    private void fractions(int ideal) {
        asked("held, reason, jump", x -> {
            for (int term : TERMS) {
                x.held(ideal, term / 10, term % 10, 5, 6);
                x.jump(ideal, term / 10, term % 10, 1);
                for (int i = 0; i <= 4; i++) {
                    x.reason(ideal, term / 10, term % 10, 99, 1, i);
                }
            }
        });
        asked("jumps", x -> {
            for (int i = 0; i < 50; i++) {
                x.jumps(ideal, i, 0);
            }
        });
        asked("lacks, odds", x -> {
            for (int num = 1; num <= 99; num += 7) {
                x.lacks(ideal, num, 9);
                x.odds(ideal, num, 9, 0);
            }
        });
    }

    private void products(int ideal) {
        asked("height", x -> {
            for (int what : new int[] {0, 1, 2, 10, 11, 12, 13, 14, 15, 16}) {
                x.height(ideal, what, 0);
                x.height(ideal, what, 60);
            }
        });
        asked("reduces", x -> x.reduces(ideal));
    }

    private void fitted(int ideal) {
        asked("fits", x -> {
            for (int k = 0; k < 6; k++) {
                for (int letter = 0; letter <= 1; letter++) {
                    x.fits(ideal, k, letter, 0);
                    x.fits(ideal, k, letter, 1);
                }
            }
        });
    }

    private void rows() {
        for (int what = 0; what <= 2; what++) {
            int w = what;
            asked("after " + w, x -> x.after(w));
        }
        asked("looked", x -> x.looked());
        asked("count", x -> {
            for (int what = 0; what <= 4; what++) {
                x.count(what);
            }
        });
        asked("peek", x -> {
            for (int tape = 0; tape <= 5; tape++) {
                x.peek(tape, 0);
                x.peek(tape, 2);
            }
        });
    }

    /** What was asked ahead of it, of the same or the other IDEAL, makes no answer another one. */
    private static void alikeAsked() {
        List<String> answers = new ArrayList<>();
        for (int other = 0; other < 8; other++) {
            TermIdeals x = Due.with(new int[] {3, 20}, new int[] {55, 27});
            x.see(0, 5, 6);
            x.event(2, 1);
            StringBuilder row = new StringBuilder();
            for (int i = 0; i < 2; i++) {
                askOther(x, other);
                row.append(x.told(i, 2)).append(' ').append(x.told(i, 3)).append(' ').append(x.told(i, 4)).append(' ');
                askOther(x, other);
                row.append(x.jumps(i, 3, 0)).append(' ').append(x.jumps(i, 3, 1)).append(' ').append(x.face(i, 1, 2)).append(' ');
                askOther(x, other);
                row.append(x.height(i, 12, 7)).append(' ').append(x.reduces(i)).append(' ').append(x.fits(i, 0, 1, 0)).append(' ');
                askOther(x, other);
                row.append(x.in(i, 1, 2, 1)).append(' ').append(x.after(1)).append(' ').append(x.lacks(i, 2, 1)).append(' ');
            }
            answers.add(row.append('\n').toString());
            Due.same("answers behind other questions, " + other, answers.get(other), answers.get(0));
        }
    }

    private static void askOther(TermIdeals x, int other) {
        switch (other) {
            case 0 -> x.count(0);
            case 1 -> x.told(0, 4);
            case 2 -> x.told(1, 4);
            case 3 -> x.fits(0, 1, 0, 1);
            case 4 -> x.after(1);
            case 5 -> x.height(0, 16, 60);
            case 6 -> x.reduces(1);
            default -> x.close(7);
        }
    }
}

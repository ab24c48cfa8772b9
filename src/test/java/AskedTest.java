import java.util.List;
import java.util.function.ToLongFunction;

/** "What is asked changes nothing": all that stands behind each call that only asks stood ahead of it. */
public final class AskedTest {
    private static final int OTHERS = 11;
    private static final int[] TERMS = {0, 3, 20, 12, 55, 99};

    private final String name;
    private final Stand.Run state;
    private final String before;

    private AskedTest(String name, Stand.Run state) {
        this.name = name;
        this.state = state;
        before = Stand.of(state);
    }

    public static void main(String[] args) {
        AskedTest[] all = {
            new AskedTest("new", States::fresh), new AskedTest("some", States::some), new AskedTest("full", States::full)
        };
        for (AskedTest each : all) {
            for (int ideal = 0; ideal <= 1; ideal++) {
                each.told(ideal);
                each.fractions(ideal);
                each.products(ideal);
                each.fitted(ideal);
            }
            each.rows();
        }
        alikeAsked();
        Due.end("AskedTest");
    }

    private void asked(String calls, Stand.Run ask) {
        Due.same(name + ": " + calls + " changes nothing", Stand.of(x -> {
            state.on(x);
            ask.on(x);
        }), before);
    }

    private void told(int ideal) {
        asked("of", x -> {
            for (int k = 0; k < 6; k++) {
                for (int what = 0; what <= 2; what++) {
                    x.of(ideal, k, what);
                }
            }
        });
        asked("told", x -> {
            for (int what = 0; what <= 4; what++) {
                x.told(ideal, what);
            }
        });
        asked("in", x -> {
            for (int term : TERMS) {
                x.in(ideal, term / 10, term % 10, 0);
                x.in(ideal, term / 10, term % 10, 1);
            }
        });
        asked("face", x -> {
            for (int i = 0; i < 7; i++) {
                for (int what = 0; what <= 2; what++) {
                    x.face(ideal, i, what);
                }
            }
        });
        asked("mean", x -> x.mean(ideal, 0));
        asked("judge", x -> {
            for (int tape = 0; tape <= 5; tape++) {
                x.judge(ideal, tape, 0);
            }
        });
    }

    private void fractions(int ideal) {
        asked("held, reason, jump", x -> {
            for (int term : TERMS) {
                x.held(ideal, term / 10, term % 10, 5, 6);
                x.jump(ideal, term / 10, term % 10, 1);
                for (int i = 0; i <= 4; i++) {
                    x.reason(ideal, term / 10, term % 10, 99, 1, i);
                }
            }
        });
        asked("jumps", x -> {
            for (int i = 0; i < 50; i++) {
                x.jumps(ideal, i, 0);
            }
        });
        asked("lacks, odds", x -> {
            for (int num = 1; num <= 99; num += 7) {
                x.lacks(ideal, num, 9);
                x.odds(ideal, num, 9, 0);
            }
        });
    }

    private void products(int ideal) {
        asked("height", x -> {
            for (int what : new int[] {0, 1, 2, 10, 11, 12, 13, 14, 15, 16}) {
                x.height(ideal, what, 0);
                x.height(ideal, what, 60);
            }
        });
        asked("reduces", x -> x.reduces(ideal));
    }

    private void fitted(int ideal) {
        asked("fits", x -> {
            for (int k = 0; k < 6; k++) {
                for (int letter = 0; letter <= 1; letter++) {
                    x.fits(ideal, k, letter, 0);
                    x.fits(ideal, k, letter, 1);
                }
            }
        });
    }

    private void rows() {
        for (int what = 0; what <= 2; what++) {
            int w = what;
            asked("after " + w, x -> x.after(w));
        }
        asked("looked", x -> x.looked());
        asked("count", x -> {
            for (int what = 0; what <= 4; what++) {
                x.count(what);
            }
        });
        asked("peek", x -> {
            for (int tape = 0; tape <= 5; tape++) {
                x.peek(tape, 0);
                x.peek(tape, 2);
            }
        });
    }

    private static List<ToLongFunction<TermIdeals>> questions(int i) {
        return List.of(
            x -> x.of(i, 1, 2), x -> x.told(i, 1), x -> x.told(i, 2), x -> x.told(i, 3), x -> x.told(i, 4), x -> x.in(i, 1, 2, 0),
            x -> x.in(i, 1, 2, 1), x -> x.in(i, 3, 6, 1), x -> x.face(i, 0, 2), x -> x.face(i, 1, 0), x -> x.face(i, 1, 2),
            x -> x.face(i, 2, 2), x -> x.held(i, 0, 1, 1, 1), x -> x.reason(i, 0, 0, 9, 1, 0), x -> x.reason(i, 2, 0, 9, 1, 2),
            x -> x.jump(i, 4, 4, 0), x -> x.jump(i, 4, 4, 1), x -> x.jumps(i, 3, 0), x -> x.jumps(i, 3, 1), x -> x.lacks(i, 2, 1),
            x -> x.height(i, 0, 3), x -> x.height(i, 1, 3), x -> x.height(i, 2, 7), x -> x.height(i, 12, 7), x -> x.height(i, 16, 12),
            x -> x.reduces(i), x -> x.fits(i, 0, 1, 0), x -> x.fits(i, 0, 1, 1), x -> x.odds(i, 2, 1, 0), x -> x.odds(i, 2, 1, 1),
            x -> x.mean(i, 0), x -> x.after(i), x -> x.after(2), x -> x.looked(), x -> x.judge(i, 0, 0), x -> x.count(i), x -> x.peek(0, i));
    }

    /** What was asked ahead of it, of the same or the other IDEAL, makes no answer another one. */
    private static void alikeAsked() {
        for (int ideal = 0; ideal <= 1; ideal++) {
            List<ToLongFunction<TermIdeals>> questions = questions(ideal);
            for (int i = 0; i < questions.size(); i++) {
                long first = questions.get(i).applyAsLong(twoUnlike());
                for (int other = 0; other < OTHERS; other++) {
                    TermIdeals x = twoUnlike();
                    askOther(x, other);
                    Due.is("question " + i + " of IDEAL " + ideal + " behind another one, " + other, questions.get(i).applyAsLong(x), first);
                    Due.is("question " + i + " of IDEAL " + ideal + ", asked twice", questions.get(i).applyAsLong(x), first);
                }
            }
        }
    }

    private static TermIdeals twoUnlike() {
        TermIdeals x = Due.with(new int[] {3, 20}, new int[] {55, 27, 88, 36});
        x.see(0, 5, 6);
        x.event(2, 1);
        x.book(12, 0);
        x.book(3, 0);
        x.tape(0, 0, 12);
        return x;
    }

    private static void askOther(TermIdeals x, int other) {
        switch (other) {
            case 0 -> x.count(0);
            case 1 -> x.told(0, 4);
            case 2 -> x.told(1, 4);
            case 3 -> x.fits(0, 1, 0, 1);
            case 4 -> x.after(1);
            case 5 -> x.height(0, 16, 60);
            case 6 -> x.reduces(1);
            case 7 -> x.in(1, 9, 9, 1);
            case 8 -> x.lacks(0, 9, 1);
            case 9 -> x.lacks(1, 9, 1);
            default -> x.reduces(0);
        }
    }
}

/** Objects as they stand ahead of a call that is looked at: new, with something in all, with all there is room for. */
final class States {
    private static final int[] SIX_OF_ZERO = {9, 90, 81, 72, 63, 54};
    private static final int[] SIX_OF_ONE = {7, 70, 99, 98, 89, 88};
    private static final int[][] EIGHT_EVENTS = {{1, 5}, {0, 41}, {2, 1}, {0, 77}, {1, 0}, {0, 14}, {2, 1}, {1, 4}};

    private States() {
    }

    static void fresh(TermIdeals x) {
    }

    /** IDEAL 0 is 03 20, IDEAL 1 without GENERATORS; TAPE 0 has bytes, TAPE 1 shorts, the others nothing. */
    static void some(TermIdeals x) {
        x.generate(0, 0, 3);
        x.generate(0, 2, 0);
        x.see(0, 5, 6);
        x.event(0, 12);
        x.book(3, 1);
        x.book(12, 1);
        feed(x, "+044;u");
        row(x, 0, 0, 1, 2, 3, 4, 5);
        row(x, 1, 1, 7, 8, 9);
    }

    /** Six GENERATORS each, whose CLOSURES need more than six; ten DEEDS; all rows full; THE IMAGE is of other things. */
    static void full(TermIdeals x) {
        x.generate(0, 1, 1);
        x.see(3, 4, 1);
        x.event(0, 53);
        x.book(11, 0);
        x.image();
        x.drop(0, 0);
        x.see(-1, 0, 0);
        x.event(-1, 0);
        x.book(-1, 0);
        generate(x, 0, SIX_OF_ZERO);
        generate(x, 1, SIX_OF_ONE);
        x.see(0, 2, 9);
        x.see(1, 1, 3);
        x.see(2, 8, 18);
        x.see(18, 20, 9);
        for (int i = 0; i < 8; i++) {
            x.event(EIGHT_EVENTS[i][0], EIGHT_EVENTS[i][1]);
            x.book(11 * i, i / 5);
        }
        feed(x, "+000;+101;-02;z0;c1;m0;u;+000;+101;-02;u;-00;");
        for (int i = x.count(3); i < 100; i++) {
            x.feed(i);
        }
        row(x, 0, 0, new long[60]);
        row(x, 1, 1, 1, 2, 3);
        row(x, 2, 2, 4, 5, 6);
        row(x, 3, 3, 7, 8, 9);
        row(x, 4, 4, 1, 0, 1);
    }

    private static void generate(TermIdeals x, int ideal, int... terms) {
        for (int term : terms) {
            x.generate(ideal, term / 10, term % 10);
        }
    }

    private static void feed(TermIdeals x, String signs) {
        for (int i = 0; i < signs.length(); i++) {
            x.feed(signs.charAt(i));
        }
    }

    private static void row(TermIdeals x, int tape, int sort, long... items) {
        x.tape(tape, sort, items.length);
        for (int i = 0; i < items.length; i++) {
            x.item(tape, i, items[i]);
        }
    }
}

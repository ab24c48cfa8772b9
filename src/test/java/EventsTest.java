/** Promises 25 to 28: event, after, book, looked. */
public final class EventsTest {
    public static void main(String[] args) {
        event();
        comes();
        goes();
        less();
        after();
        book();
        looked();
        Due.end("EventsTest");
    }

    private static void event() {
        TermIdeals x = new TermIdeals();
        for (int what : new int[] {-2, 3, Due.LOW, Due.HIGH}) {
            Due.is("25 what", x.event(what, 1000), Due.NONE);
        }
        int[][] bad = {{0, -1}, {0, 100}, {1, -1}, {1, 6}, {2, 0}, {2, 10}, {2, Due.LOW}, {0, Due.HIGH}};
        for (int[] row : bad) {
            Due.is("25 n", x.event(row[0], row[1]), Due.BAD);
        }
        int[][] good = {{0, 0}, {0, 99}, {1, 0}, {1, 5}, {2, 1}, {2, 9}, {2, 9}, {1, 3}};
        for (int i = 0; i < good.length; i++) {
            Due.is("25 row", x.event(good[i][0], good[i][1]), i + 1);
        }
        Due.is("25 full", x.event(0, 0), Due.FULL);
        Due.is("25 BAD ahead of FULL", x.event(2, 0), Due.BAD);
        Due.is("25 NONE ahead of FULL", x.event(3, 0), Due.NONE);
        Due.is("25 count", x.count(1), 8);
        Due.is("25 none then", x.event(-1, Due.LOW), 0);
        Due.is("25 none then", x.count(1), 0);
        Due.is("25 again", x.event(0, 0), 1);
    }

    private static TermIdeals with(int[] zero, int[]... events) {
        TermIdeals x = Due.with(zero, new int[] {77});
        for (int[] row : events) {
            x.event(row[0], row[1]);
        }
        return x;
    }

    private static void comes() {
        Due.is("26 no EVENTS", with(new int[] {3, 20}).after(0), 2);
        Due.is("26 comes", with(new int[] {3, 20}, new int[] {0, 11}).after(0), 3);
        Due.is("26 is one", with(new int[] {3, 20}, new int[] {0, 20}).after(0), 2);
        Due.is("26 no room", with(new int[] {1, 2, 3, 4, 5, 6}, new int[] {0, 20}).after(0), 6);
        Due.is("26 comes to none", with(new int[] {}, new int[] {0, 20}).after(0), 1);
        // what comes is a by the tens, b by the ones: of 20 there are 10 JUMPS, of 20 and 03 44
        Due.is("26 a and b", with(new int[] {20}, new int[] {0, 3}).after(1), 44);
        Due.is("26 a and b", with(new int[] {3}, new int[] {0, 20}).after(1), 44);
    }

    private static void goes() {
        Due.is("26 goes", with(new int[] {3, 20}, new int[] {1, 1}).after(0), 1);
        Due.is("26 there is none", with(new int[] {3, 20}, new int[] {1, 2}).after(0), 2);
        Due.is("26 to none", with(new int[] {3}, new int[] {1, 0}).after(0), 0);
        Due.is("26 to none", with(new int[] {3}, new int[] {1, 0}).after(1), Due.STATE);
        Due.is("26 to none", with(new int[] {3}, new int[] {1, 0}).after(2), Due.STATE);
        Due.is("26 one number less", with(new int[] {46, 55, 64}, new int[] {1, 0}, new int[] {1, 0}).after(0), 1);
        Due.is("26 which one goes", with(new int[] {46, 55, 64}, new int[] {1, 1}).after(2), 0);
        Due.is("26 which one goes", with(new int[] {46, 55, 64}, new int[] {1, 2}).after(2), 1);
    }

    private static void less() {
        Due.is("26 less", with(new int[] {3, 20}, new int[] {2, 1}).after(0), 2);
        Due.is("26 alike just once", with(new int[] {3, 20}, new int[] {2, 3}).after(0), 1);
        Due.is("26 0 at least", with(new int[] {3, 20}, new int[] {2, 9}).after(1), 0);
        Due.is("26 less, then all TERMS", with(new int[] {3, 20}, new int[] {2, 9}).after(2), 1);
        // 14 25 33 less 3: 01 02 00; GENERATOR 2 goes: 01 02
        Due.is("26 order", with(new int[] {14, 25, 33}, new int[] {2, 3}, new int[] {1, 2}).after(1), 10);
        // 12 21 40 less 2: 00 once, then 20; the first one goes: 20
        Due.is("26 the first stays", with(new int[] {12, 21, 40}, new int[] {2, 2}, new int[] {1, 0}).after(0), 1);
        Due.is("26 the first stays", with(new int[] {12, 21, 40}, new int[] {2, 2}, new int[] {1, 0}).after(1), 10);
        Due.is("26 the first stays", with(new int[] {12, 21, 40}, new int[] {2, 2}, new int[] {1, 1}).after(1), 0);
        Due.is("26 none to be less", with(new int[] {}, new int[] {2, 2}).after(0), 0);
        // 46 64 less 2: 24 42, the one between is lacking
        Due.is("26 not CLOSED", with(new int[] {46, 64}, new int[] {2, 2}).after(2), 0);
    }

    private static void after() {
        TermIdeals x = with(new int[] {3, 20}, new int[] {0, 12});
        Due.is("26 what", x.after(3), Due.NONE);
        Due.is("26 what", x.after(-1), Due.NONE);
        Due.is("26 many", x.after(0), 3);
        Due.is("26 JUMPS", x.after(1), 44);
        Due.is("26 CLOSED", x.after(2), 1);
        Due.is("26 it is asked", x.told(0, 0), 2);
        Due.is("26 it is asked", x.told(0, 3), 0);
        Due.is("26 no DEED", x.count(4), 3);
        Due.is("26 EVENTS stay", x.count(1), 1);
        Due.is("26 what ahead of STATE", new TermIdeals().after(3), Due.NONE);
        x.clear(0);
        Due.is("26 by what IDEAL 0 is now", x.after(0), 1);
    }

    private static void book() {
        TermIdeals x = new TermIdeals();
        for (int term : new int[] {-2, 100, Due.LOW, Due.HIGH}) {
            Due.is("27 term", x.book(term, 5), Due.NONE);
        }
        for (int is : new int[] {-1, 2, Due.LOW, Due.HIGH}) {
            Due.is("27 is", x.book(0, is), Due.BAD);
        }
        for (int i = 1; i <= 8; i++) {
            Due.is("27 row", x.book(i % 2 == 0 ? 0 : 99, i % 2), i);
        }
        Due.is("27 full", x.book(0, 0), Due.FULL);
        Due.is("27 BAD ahead of FULL", x.book(0, 2), Due.BAD);
        Due.is("27 NONE ahead of FULL", x.book(100, 0), Due.NONE);
        Due.is("27 count", x.count(2), 8);
        Due.is("27 empty then", x.book(-1, 77), 0);
        Due.is("27 empty then", x.count(2), 0);
        Due.is("27 again", x.book(0, 0), 1);
    }

    private static void looked() {
        TermIdeals x = Due.with(new int[] {3, 20}, new int[] {0});
        Due.is("28 empty", x.looked(), -5);
        x.book(3, 1);
        x.book(2, 0);
        x.book(19, 1);
        x.book(11, 0);
        Due.is("28 all so", x.looked(), -5);
        x.book(12, 1);
        x.book(12, 0);
        x.book(30, 0);
        Due.is("28 the first otherwise", x.looked(), 4);
        x.generate(0, 1, 1);
        Due.is("28 now", x.looked(), 3);
        x.clear(0);
        Due.is("28 now", x.looked(), 0);
        TermIdeals y = Due.with(94);
        y.book(94, 1);
        y.book(93, 0);
        y.book(84, 0);
        y.book(49, 0);
        Due.is("28 a and b", y.looked(), -5);
        TermIdeals all = Due.with(0);
        Due.is("28 empty, all TERMS", all.looked(), -5);
        all.book(0, 1);
        Due.is("28 all TERMS", all.looked(), -5);
        all.book(99, 1);
        Due.is("28 all TERMS", all.looked(), -5);
        all.book(0, 0);
        Due.is("28 all TERMS", all.looked(), 2);
    }
}

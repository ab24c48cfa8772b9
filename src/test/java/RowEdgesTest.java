import java.util.ArrayList;
import java.util.List;

/** EVENTS, THE IMAGE, HEIGHTS, JUDGED and TAPES at their edges. */
public final class RowEdgesTest {
    public static void main(String[] args) {
        eventComes();
        eventGoes();
        eventMakesLess();
        heightsOfTwo();
        sumsAndProducts();
        powersOfOne();
        undoneIsTheImage();
        judgedFromEachPlace();
        judgedOtherwiseAtEach();
        lowestBits();
        shiftedAsTheyWere();
        shiftedBetween();
        Due.end("RowEdgesTest");
    }

    private static TermIdeals zero(List<Integer> terms) {
        return Due.with(terms.stream().mapToInt(i -> i).toArray());
    }

    /** What AFTER says, and what it says of an IDEAL that has these GENERATORS: alike, whatever is asked. */
    private static void afterIs(String what, TermIdeals x, List<Integer> terms) {
        Due.is(what + ": how many", x.after(0), terms.size());
        TermIdeals as = zero(terms);
        Due.is(what + ": JUMPS", x.after(1), as.told(0, 4));
        Due.is(what + ": CLOSED", x.after(2), as.told(0, 3));
    }

    /** "the TERM n, 10 a and b, comes to GENERATORS, if it is none and there is room" */
    private static void eventComes() {
        List<Integer> five = List.of(9, 90, 81, 55, 36);
        for (int n = 0; n < 100; n++) {
            TermIdeals x = zero(five);
            x.event(0, n);
            List<Integer> then = new ArrayList<>(five);
            if (!then.contains(n)) {
                then.add(n);
            }
            afterIs("comes " + n, x, then);
            x.event(0, 45);
            if (then.size() < 6 && !then.contains(45)) {
                then.add(45);
            }
            afterIs("comes " + n + ", then one more", x, then);
            TermIdeals none = new TermIdeals();
            none.event(0, n);
            afterIs("comes to none " + n, none, List.of(n));
        }
    }

    /** "GENERATOR n goes, if there is one": for each n, of each number of GENERATORS. */
    private static void eventGoes() {
        List<Integer> six = List.of(9, 90, 72, 18, 54, 27);
        for (int many = 0; many <= 6; many++) {
            for (int n = 0; n <= 5; n++) {
                TermIdeals x = zero(six.subList(0, many));
                x.event(1, n);
                List<Integer> then = new ArrayList<>(six.subList(0, many));
                if (n < many) {
                    then.remove(n);
                }
                Due.is(n + " of " + many + " goes", x.after(0), then.size());
                if (!then.isEmpty()) {
                    afterIs(n + " of " + many + " goes", x, then);
                } else {
                    Due.is("none is left: JUMPS", x.after(1), Due.STATE);
                    Due.is("none is left: CLOSED", x.after(2), Due.STATE);
                }
                Due.is("IDEAL 0 is as it was", x.told(0, 0), many);
            }
        }
    }

    /** "all powers of GENERATORS are n less, 0 at least, those that are alike then just once, the first" */
    private static void eventMakesLess() {
        List<Integer> six = List.of(99, 54, 13, 40, 4, 78);
        for (int n = 1; n <= 9; n++) {
            TermIdeals x = zero(six);
            x.event(2, n);
            List<Integer> then = new ArrayList<>();
            for (int term : six) {
                int less = Math.max(0, term / 10 - n) * 10 + Math.max(0, term % 10 - n);
                if (!then.contains(less)) {
                    then.add(less);
                }
            }
            afterIs(n + " less", x, then);
            // which is the first shows by what is left when the others go
            for (int k = then.size() - 1; k >= 1; k--) {
                x.event(1, 1);
                then.remove(1);
            }
            afterIs(n + " less, the first", x, then);
        }
        TermIdeals none = new TermIdeals();
        none.event(2, 9);
        Due.is("none is less", none.after(0), 0);
        Due.is("none is less", none.after(1), Due.STATE);
    }

    /** "the least b with the TERM a, b IN it; there may be none", and SUM: "what is IN either" */
    private static void heightsOfTwo() {
        for (int one = 0; one < 100; one += 3) {
            for (int other = 1; other < 100; other += 7) {
                if (one == other) {
                    continue;
                }
                TermIdeals x = Due.with(new int[] {one, other}, new int[] {other});
                TermIdeals apart = Due.with(new int[] {one}, new int[] {other});
                for (int a = 0; a <= 10; a++) {
                    int low = one / 10 <= a ? one % 10 : -5;
                    low = other / 10 <= a && (low == -5 || other % 10 < low) ? other % 10 : low;
                    Due.is("HEIGHT at " + a, x.height(0, 0, a), low);
                    Due.is("HEIGHT at " + a, x.height(1, 0, a), other / 10 <= a ? other % 10 : -5);
                    Due.is("SUM at " + a, apart.height(0, 1, a), low);
                    Due.is("SUM at " + a, apart.height(1, 1, a), low);
                    if (a <= 9 && low > 0) {
                        Due.is("none below it is IN", x.in(0, a, low - 1, 0), 0);
                        Due.is("it is IN", x.in(0, a, low, 0), 1);
                    }
                }
                Due.is("HEIGHT at 60", x.height(0, 0, 60), Math.min(one % 10, other % 10));
            }
        }
    }

    private static int sumHeight(int[] terms, int a) {
        int low = -5;
        for (int term : terms) {
            low = term / 100 <= a && (low == -5 || term % 100 < low) ? term % 100 : low;
        }
        return low;
    }

    /** PRODUCT: by all sums of one TERM each; "which IDEAL does not matter for these two" */
    private static void sumsAndProducts() {
        int[][] ideals = {{}, {0}, {99}, {3, 20}, {90, 9}, {17, 34, 29}, {9, 15, 23, 32, 51, 90}};
        for (int[] zero : ideals) {
            for (int[] one : ideals) {
                TermIdeals x = Due.with(zero, one);
                int[] all = new int[zero.length * one.length];
                for (int i = 0; i < all.length; i++) {
                    int u = zero[i / one.length];
                    int v = one[i % one.length];
                    all[i] = (u / 10 + v / 10) * 100 + u % 10 + v % 10;
                }
                for (int a = 0; a <= 60; a++) {
                    Due.is("PRODUCT at " + a, x.height(0, 2, a), sumHeight(all, a));
                    Due.is("PRODUCT at " + a + ", by the other", x.height(1, 2, a), sumHeight(all, a));
                }
            }
        }
    }

    /** POWER n of one TERM is that of n times its powers, up to 54, 54. */
    private static void powersOfOne() {
        for (int term : new int[] {0, 1, 10, 11, 19, 58, 90, 9, 99}) {
            TermIdeals x = Due.with(new int[] {}, new int[] {term});
            for (int n = 0; n <= 6; n++) {
                int first = n * (term / 10);
                Due.is("POWER at its first a", x.height(1, 10 + n, first), n * (term % 10));
                Due.is("POWER ahead of it", first > 0 ? x.height(1, 10 + n, first - 1) : -5, -5);
                Due.is("POWER at 60", x.height(1, 10 + n, 60), n * (term % 10));
                Due.is("POWER of the empty one", x.height(0, 10 + n, 60), n == 0 ? 0 : -5);
            }
        }
    }

    /** "All is as THE IMAGE (no DEED can be taken back then; THE TEXT and the TAPES stay as they are)" */
    private static void undoneIsTheImage() {
        Stand.Run[] states = {States::fresh, States::some, States::full};
        Stand.Run[] deeds = {
            x -> x.generate(1, 9, 9), x -> x.drop(0, 0), x -> x.clear(0), x -> x.merge(1), x -> x.close(0), x -> x.back(), x -> x.see(0, 1, 1),
            x -> x.see(-1, 0, 0), x -> x.event(0, 99), x -> x.event(-1, 0), x -> x.book(0, 1), x -> x.book(-1, 0),
            x -> {
                x.see(-1, 0, 0);
                x.see(5, 99, 98);
                x.event(-1, 0);
                x.event(2, 9);
                x.book(-1, 0);
                x.book(99, 0);
                x.clear(0);
                x.clear(1);
                x.generate(0, 7, 7);
            }
        };
        for (Stand.Run state : states) {
            Stand.Run taken = x -> {
                state.on(x);
                x.image();
            };
            String want = Stand.of(x -> {
                taken.on(x);
                x.undo();
            });
            for (Stand.Run deed : deeds) {
                Due.same("undone", Stand.of(x -> {
                    taken.on(x);
                    deed.on(x);
                    x.undo();
                }), want);
                Due.same("undone twice", Stand.of(x -> {
                    taken.on(x);
                    x.undo();
                    deed.on(x);
                    x.undo();
                }), want);
            }
        }
        Stand.Run apart = x -> {
            x.feed('u');
            x.tape(5, 4, 2);
            x.item(5, 1, 1L);
            x.tape(0, -1, 0);
        };
        Due.same("THE TEXT and the TAPES stay", Stand.of(x -> {
            x.image();
            apart.on(x);
            x.undo();
        }), Stand.of(x -> {
            apart.on(x);
            x.image();
            x.undo();
        }));
        TermIdeals x = new TermIdeals();
        States.full(x);
        Due.is("how many both have", x.undo(), 1);
        Due.is("no DEED can be taken back", x.back(), Due.STATE);
        Due.is("THE TEXT stays", x.count(3), 100);
        States.some(x);
        Due.is("how many both have", x.image(), 3);
    }

    private static int[] heights(TermIdeals x, int ideal) {
        int[] row = new int[10];
        for (int a = 0; a <= 9; a++) {
            row[a] = x.height(ideal, 0, a);
        }
        return row;
    }

    /** A row that tells all HEIGHTS from a place on, cut off behind so many; each place is asked. */
    private static void judgedFromEachPlace() {
        for (int from = 0; from <= 2; from++) {
            for (int many = 0; many <= 11; many++) {
                TermIdeals x = Due.with(new int[] {17, 34}, new int[] {});
                x.tape(4, 0, from + many);
                int[] row = heights(x, 0);
                for (int a = 0; a < Math.min(10, many); a++) {
                    x.item(4, from + a, row[a]);
                }
                Due.is("JUDGED of " + many + " from " + from, x.judge(0, 4, from), many >= 10 ? -5 : 100 + many);
                for (int place : new int[] {-1, -9, Due.LOW, from + many, from + many + 1, Due.HIGH - 8, Due.HIGH}) {
                    Due.is("JUDGED from " + place, x.judge(0, 4, place), 100);
                }
            }
        }
        TermIdeals x = Due.with(17, 34);
        for (int place : new int[] {-1, 0, 1, Due.LOW, Due.HIGH}) {
            Due.is("a TAPE with nothing", x.judge(0, 5, place), 100);
        }
        x.tape(5, 0, 60);
        for (int a = 0; a <= 9; a++) {
            x.item(5, 50 + a, heights(x, 0)[a]);
        }
        Due.is("the last ten places", x.judge(0, 5, 50), -5);
        Due.is("from the last place on, otherwise", x.judge(0, 5, 59), 0);
        x.item(5, 59, -5L);
        Due.is("from the last place on", x.judge(0, 5, 59), 101);
        for (int sort = 1; sort <= 4; sort++) {
            x.tape(5, sort, 0);
            Due.is("no bytes, of length 0", x.judge(0, 5, 0), Due.CAST);
        }
    }

    private static void judgedOtherwiseAtEach() {
        for (int ideal = 0; ideal <= 1; ideal++) {
            TermIdeals x = Due.with(new int[] {17, 34, 60}, new int[] {});
            x.tape(0, 0, 10);
            int[] row = heights(x, ideal);
            for (int a = 0; a <= 9; a++) {
                x.item(0, a, row[a]);
            }
            Due.is("JUDGED", x.judge(ideal, 0, 0), -5);
            for (int a = 0; a <= 9; a++) {
                for (int other : new int[] {row[a] + 1, row[a] - 1, row[a] == -5 ? 0 : -5, -row[a] - 1}) {
                    x.item(0, a, other);
                    x.item(0, 9, a == 9 ? other : row[9] + 2);
                    Due.is("the first that is otherwise", x.judge(ideal, 0, 0), a);
                    x.item(0, 9, row[9]);
                    x.item(0, a, row[a]);
                }
                x.item(0, a, row[a] + 256L);
                Due.is("by its lowest bits it is as told", x.judge(ideal, 0, 0), -5);
            }
        }
    }

    /** "its lowest bits, as many as an item has; booleans: whether v is not 0" */
    private static void lowestBits() {
        int[] bits = {8, 16, 32, 64};
        TermIdeals x = new TermIdeals();
        for (int sort = 0; sort <= 3; sort++) {
            x.tape(sort, sort, 1);
            for (int bit = 0; bit < 64; bit++) {
                x.item(sort, 0, 1L << bit);
                long want = bit < bits[sort] - 1 ? 1L << bit : bit == bits[sort] - 1 ? -1L << bit : 0;
                Due.is("bit " + bit + " of sort " + sort, x.peek(sort, 0), want);
            }
        }
        for (int sort = 0; sort <= 3; sort++) {
            long top = Long.MAX_VALUE >>> 64 - bits[sort];
            long[][] rows = {{top, top}, {top + 1, -top - 1}, {-top - 1, -top - 1}, {-top - 2, top}, {-1L, -1L}, {2 * top + 1, -1L}};
            for (long[] row : rows) {
                Due.is("around the end of sort " + sort, x.item(sort, 0, row[0]), 1);
                Due.is("around the end of sort " + sort, x.peek(sort, 0), row[1]);
            }
        }
        x.tape(4, 4, 1);
        for (int bit = 0; bit < 64; bit++) {
            x.item(4, 0, 0L);
            Due.is("0 is none", x.peek(4, 0), 0);
            x.item(4, 0, 1L << bit);
            Due.is("bit " + bit + " is one", x.peek(4, 0), 1);
        }
    }

    /** "n items .. come to the same from j on, as they all were before", for all i, j, n within a row of five. */
    private static void shiftedAsTheyWere() {
        for (int i = -1; i <= 6; i++) {
            for (int j = -1; j <= 6; j++) {
                for (int n = -1; n <= 6; n++) {
                    TermIdeals x = new TermIdeals();
                    x.tape(2, 3, 5);
                    for (int k = 0; k < 5; k++) {
                        x.item(2, k, 10L + k);
                    }
                    boolean within = i >= 0 && j >= 0 && n >= 0 && i + n <= 5 && j + n <= 5;
                    Due.is("shift " + i + " " + j + " " + n, x.shift(2, i, 2, j, n), within ? n : Due.PLACE);
                    for (int k = 0; k < 5; k++) {
                        boolean came = within && k >= j && k < j + n;
                        Due.is("item " + k, x.peek(2, k), came ? 10 + i + k - j : 10 + k);
                    }
                }
            }
        }
    }

    /** "beyond either's end": a row of three and one of five, each way, of each sort. */
    private static void shiftedBetween() {
        for (int sort = 0; sort <= 4; sort++) {
            for (int i = 0; i <= 6; i++) {
                for (int j = 0; j <= 6; j++) {
                    for (int n = 0; n <= 6; n++) {
                        TermIdeals x = new TermIdeals();
                        x.tape(0, sort, 3);
                        x.tape(5, sort, 5);
                        for (int k = 0; k < 5; k++) {
                            x.item(5, k, 1L);
                        }
                        boolean down = i + n <= 5 && j + n <= 3;
                        Due.is("from five to three", x.shift(5, i, 0, j, n), down ? n : Due.PLACE);
                        for (int k = 0; k < 3; k++) {
                            Due.is("item " + k, x.peek(0, k), down && k >= j && k < j + n ? 1 : 0);
                        }
                        x.tape(0, sort, 3);
                        boolean up = i + n <= 3 && j + n <= 5;
                        Due.is("from three to five", x.shift(0, i, 5, j, n), up ? n : Due.PLACE);
                        for (int k = 0; k < 5; k++) {
                            Due.is("item " + k, x.peek(5, k), up && k >= j && k < j + n ? 0 : 1);
                        }
                    }
                }
            }
        }
    }
}

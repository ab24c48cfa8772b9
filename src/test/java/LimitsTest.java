/** How many of each there may be: one less, as many, one more, and what stands then. */
public final class LimitsTest {
    private static final int[] SIX = {11, 22, 33, 44, 55, 66};

    public static void main(String[] args) {
        sixGenerators();
        sixByMerging();
        sixByClosing();
        sixByText();
        tenDeeds();
        tenDeedsManyTimes();
        eachIsOneDeed();
        hundredBytes();
        twelveClauses();
        fourSeen();
        seenOfEachNumber();
        eightEvents();
        eightOfTheBook();
        sixtyItems();
        fiveHundredAndTwelveCalls();
        Due.end("LimitsTest");
    }

    private static void sixGenerators() {
        for (int ideal = 0; ideal <= 1; ideal++) {
            TermIdeals x = new TermIdeals();
            for (int i = 0; i < 6; i++) {
                Due.is("GENERATOR " + i, x.generate(ideal, SIX[i] / 10, SIX[i] % 10), i + 1);
            }
            Due.is("the seventh", x.generate(ideal, 0, 0), Due.FULL);
            Due.generators("six", x, ideal, "11 22 33 44 55 66");
            Due.generators("none of the other", x, 1 - ideal, "");
            Due.is("one goes", x.drop(ideal, 5), 5);
            Due.is("there is room again", x.generate(ideal, 0, 0), 6);
            Due.is("there is none again", x.generate(ideal, 6, 6), Due.FULL);
            Due.is("back makes room", x.back(), 7);
            Due.is("there is room again", x.generate(ideal, 6, 6), 6);
            Due.generators("six again", x, ideal, "11 22 33 44 55 66");
            Due.is("all go", x.clear(ideal), 6);
            Due.is("there is room for all", x.generate(ideal, 9, 9), 1);
        }
    }

    private static void sixByMerging() {
        for (int many = 0; many <= 6; many++) {
            for (int alike = 0; alike <= many; alike++) {
                TermIdeals x = new TermIdeals();
                for (int i = 0; i < many; i++) {
                    x.generate(0, i, 0);
                }
                for (int i = 0; i < 4; i++) {
                    x.generate(1, i < alike ? i : 9, i < alike ? 0 : i);
                }
                int together = many + 4 - Math.min(4, alike);
                Due.is("merge " + many + " and 4, " + alike + " alike", x.merge(0), together > 6 ? Due.FULL : together);
                Due.is("then there are", x.told(0, 0), together > 6 ? many : together);
                Due.is("DEEDS", x.count(4), Math.min(10, many + 4 + (together > 6 ? 0 : 1)));
                Due.is("the other has", x.told(1, 0), 4);
            }
        }
    }

    /** Of 0n and n0 the CLOSURE needs n + 1 TERMS. */
    private static void sixByClosing() {
        for (int n = 1; n <= 9; n++) {
            TermIdeals x = Due.with(new int[] {9}, new int[] {10 * n, n});
            StringBuilder want = new StringBuilder();
            for (int a = 0; a <= n; a++) {
                want.append(a == 0 ? "" : " ").append(a).append(n - a);
            }
            boolean room = n + 1 <= 6;
            Due.is("close 0" + n + " and its turn", x.close(1), room ? n + 1 : Due.FULL);
            Due.generators("the least a first", x, 1, room ? want.toString() : n + "0 0" + n);
            Due.is("DEEDS", x.count(4), room ? 4 : 3);
            Due.generators("the other stays", x, 0, "09");
        }
    }

    private static void sixByText() {
        TermIdeals x = new TermIdeals();
        Due.is("five, and none for the seventh", Due.read(x, "+011;+022;+033;+044;+055;+066;+077"), 6);
        Due.generators("six", x, 0, "11 22 33 44 55 66");
        Due.is("no room to merge", Due.read(x, "+177;m0;m1"), 1);
        Due.is("room to merge", Due.read(x, "-00;m0"), 2);
        Due.generators("six", x, 0, "22 33 44 55 66 77");
        Due.is("no room to close", Due.read(x, "z1;+106;+160;c1"), 3);
        Due.generators("not closed", x, 1, "06 60");
    }

    private static void tenDeeds() {
        for (int many = 0; many <= 12; many++) {
            TermIdeals x = new TermIdeals();
            for (int i = 0; i < many; i++) {
                x.generate(i % 2, i / 2, 5);
            }
            int kept = Math.min(10, many);
            Due.is(many + " DEEDS: can be taken back", x.count(4), kept);
            for (int i = kept - 1; i >= 0; i--) {
                Due.is(many + " DEEDS: still can be", x.back(), i);
                Due.is(many + " DEEDS: the latest first", x.told(0, 0) + x.told(1, 0), many - kept + i);
            }
            Due.is(many + " DEEDS: none", x.back(), Due.STATE);
            Due.is(many + " DEEDS: older ones no more", x.told(0, 0) + x.told(1, 0), many - kept);
            Due.is(many + " DEEDS: none can be", x.count(4), 0);
        }
    }

    /** Four at a time, three of them taken back: one stays each time, ten of those at most. */
    private static void tenDeedsManyTimes() {
        TermIdeals x = new TermIdeals();
        for (int i = 0; i < 25; i++) {
            x.clear(0);
            x.generate(0, i / 10, i % 10);
            x.generate(0, 9, 9);
            x.generate(0, 8, 8);
            int before = x.count(4);
            Due.is("three are taken back", x.back() - before, -1);
            Due.is("three are taken back", x.back() - before, -2);
            Due.generators("what stays", x, 0, "" + i / 10 + i % 10);
        }
        Due.is("eight are left", x.count(4), 8);
        for (int i = 7; i >= 0; i--) {
            Due.is("then", x.back(), i);
            Due.generators("then", x, 0, i % 2 == 1 ? "" : "" + (i / 2 + 20) / 10 + (i / 2 + 20) % 10);
        }
        Due.is("none", x.back(), Due.STATE);
    }

    private static void deed(String call, String zero, String one, Stand.Run run) {
        TermIdeals x = Due.with(new int[] {3, 20}, new int[] {20});
        run.on(x);
        Due.is(call + " is one DEED", x.count(4), 4);
        Due.generators(call, x, 0, zero);
        Due.generators(call, x, 1, one);
        Due.is(call + " is taken back", x.back(), 3);
        Due.generators(call + " taken back", x, 0, "03 20");
        Due.generators(call + " taken back", x, 1, "20");
        Due.is(call + ": the one ahead of it", x.back(), 2);
        Due.generators(call + ": the one ahead of it", x, 1, "");
    }

    private static void eachIsOneDeed() {
        deed("generate", "03 20 99", "20", x -> x.generate(0, 9, 9));
        deed("generate", "03 20", "20 99", x -> x.generate(1, 9, 9));
        deed("drop", "20", "20", x -> x.drop(0, 0));
        deed("drop of the only one", "03 20", "", x -> x.drop(1, 0));
        deed("clear", "", "20", x -> x.clear(0));
        deed("clear", "03 20", "", x -> x.clear(1));
        deed("merge", "03 20", "20 03", x -> x.merge(1));
        deed("merge that adds none", "03 20", "20", x -> x.merge(0));
        deed("close", "03 12 20", "20", x -> x.close(0));
        deed("close that adds none", "03 20", "20", x -> x.close(1));
        deed("+ of a text", "03 20 99", "20", x -> Due.read(x, "+099"));
        deed("- of a text", "03", "20", x -> Due.read(x, "-01"));
        deed("z of a text", "03 20", "", x -> Due.read(x, "z1"));
        deed("c of a text", "03 12 20", "20", x -> Due.read(x, "c0"));
        deed("m of a text", "03 20", "20 03", x -> Due.read(x, "m1"));
        deed("m of a text that adds none", "03 20", "20", x -> Due.read(x, "m0"));
        deed("c of a text that adds none", "03 20", "20", x -> Due.read(x, "c1"));
        deed("what a text did, taken back by it, and done again", "03", "20", x -> Due.read(x, "-00;u;-01"));
        deed("refused ones of a text are none", "03 20 99", "20", x -> Due.read(x, "+020;-02;-11;z2;c3;m4;+099"));
        TermIdeals empty = new TermIdeals();
        Due.is("merge of none to none", empty.merge(0), 0);
        Due.is("is a DEED", empty.count(4), 1);
        Due.is("and can be taken back", empty.back(), 0);
    }

    private static void hundredBytes() {
        for (int sign = 0; sign <= 127; sign++) {
            TermIdeals x = new TermIdeals();
            Due.is("sign " + sign, x.feed(sign), 1);
            Due.is("then there is", x.count(3), 1);
        }
        TermIdeals x = new TermIdeals();
        String twelve = "+000;-00;+001;-00;+002;-00;+003;-00;+004;-00;+005;-00";
        for (int i = 0; i < 100; i++) {
            Due.is("byte " + i, x.feed(i < twelve.length() ? twelve.charAt(i) : ';'), i + 1);
        }
        Due.is("byte 100", x.feed('u'), Due.FULL);
        Due.is("there are", x.count(3), 100);
        Due.is("a FAULT at the ; behind the twelfth", x.read(), -10 - twelve.length());
        Due.is("nothing is done", x.count(4), 0);
        Due.is("empty then", x.count(3), 0);
        for (int i = 0; i < 100; i++) {
            Due.is("byte " + i + " again", x.feed(twelve.charAt(0)), i + 1);
        }
        Due.is("a FAULT at 1", x.read(), -11);
    }

    /** From one to thirteen, of each kind, and of two kinds by turns. */
    private static void twelveClauses() {
        String[] kinds = {"+011", "-00", "z0", "c1", "m0", "u"};
        for (String one : kinds) {
            for (String other : kinds) {
                StringBuilder text = new StringBuilder();
                int twelfth = 0;
                for (int many = 1; many <= 13; many++) {
                    text.append(many > 1 ? ";" : "").append(many % 2 == 1 ? one : other);
                    TermIdeals x = new TermIdeals();
                    int answer = Due.read(x, text.toString());
                    boolean done = many <= 12 && answer >= 0 && answer <= many;
                    boolean fault = many == 13 && answer == -10 - twelfth;
                    Due.is(many + " CLAUSES " + text + " answered " + answer, done || fault ? 1 : 0, 1);
                    Due.is("and by a FAULT none is done", many == 13 ? x.count(4) : 0, 0);
                    twelfth = many == 12 ? text.length() : twelfth;
                }
                TermIdeals x = new TermIdeals();
                Due.is("a ; behind the twelfth", Due.read(x, text.substring(0, twelfth) + ";"), -10 - twelfth);
                Due.is("another sign behind the twelfth", Due.read(x, text.substring(0, twelfth) + "u"), -10 - twelfth);
                Due.is("nothing is done", x.count(4), 0);
            }
        }
        TermIdeals x = new TermIdeals();
        Due.is("none is too few", x.read(), -10);
        Due.is("all twelve are done", Due.read(x, "+000;+001;z0;+002;+003;m1;+004;-00;c1;+100;z1;u"), 12);
        Due.generators("all twelve are done", x, 0, "03 04");
        Due.generators("all twelve are done", x, 1, "02 00");
    }

    private static void fourSeen() {
        TermIdeals x = Due.with(20);
        // JUMPS are 1 2, 2 2, 3 2 and so on: of the power a only 2 has these
        int[][] rows = {{0, 1, 2}, {1, 2, 2}, {2, 9, 6}, {3, 4, 2}};
        for (int i = 0; i < 4; i++) {
            Due.is("row " + i, x.see(rows[i][0], rows[i][1], rows[i][2]), i + 1);
            Due.is("FITS", x.fits(0, 0, 0, 0), 1);
            Due.is("the least", x.fits(0, 0, 0, 1), 2);
        }
        Due.is("row 4", x.see(4, 5, 2), Due.FULL);
        Due.is("row 4, otherwise", x.see(4, 7, 2), Due.FULL);
        Due.is("there are", x.count(0), 4);
        Due.is("FITS as before", x.fits(0, 0, 0, 0), 1);
        // which of the four rows is otherwise does not matter
        for (int wrong = 0; wrong < 4; wrong++) {
            Due.is("none then", x.see(-1, 0, 0), 0);
            Due.is("nothing SEEN: all powers", x.fits(0, 0, 0, 0), 10);
            for (int i = 0; i < 4; i++) {
                x.see(rows[i][0], rows[i][1] * 2 + (i == wrong ? 1 : 0), rows[i][2] * 2);
            }
            Due.is("row " + wrong + " is otherwise", x.fits(0, 0, 0, 0), 0);
            Due.is("row " + wrong + " is otherwise", x.fits(0, 0, 0, 1), -5);
        }
    }

    /** JUMP i for each number that there is, the first one that there isn't, and the last that can be told. */
    private static void seenOfEachNumber() {
        TermIdeals x = Due.with(3, 20);
        int many = x.told(0, 4);
        for (int i = 0; i < many; i++) {
            x.see(-1, 0, 0);
            x.see(i, (int) x.jumps(0, i, 0), (int) x.jumps(0, i, 1));
            Due.is("JUMP " + i + " as it is", x.fits(1, 0, 0, 0), Due.NONE);
            Due.is("its own power FITS", x.fits(0, 0, 1, 0) >= 1 ? 1 : 0, 1);
            x.see(i, 98, 99);
            Due.is("JUMP " + i + " otherwise, too", x.fits(0, 0, 1, 0), 0);
        }
        for (int i : new int[] {many, 98, 99}) {
            x.see(-1, 0, 0);
            Due.is("JUMP " + i, x.see(i, 25, 3), 1);
            Due.is("there is none", x.fits(0, 0, 1, 1) == 3 ? 1 : 0, 0);
        }
        TermIdeals ends = Due.with(99, 90);
        ends.see(0, 1, 9);
        // 9, b is in the way of b 0 alone
        Due.is("all but one power", ends.fits(0, 0, 1, 0), 9);
        Due.is("the least", ends.fits(0, 0, 1, 1), 1);
        TermIdeals last = Due.with(80);
        last.see(0, 1, 9);
        Due.is("the power 9 alone", last.fits(0, 0, 0, 0), 1);
        Due.is("the power 9 alone", last.fits(0, 0, 0, 1), 9);
        TermIdeals first = Due.with(89);
        first.see(0, 1, 9);
        first.see(9, 10, 9);
        // by 0, 1, 3 and 9 all JUMPS are ninths, so that there are just ten; by another power there are more
        Due.is("both ends of the powers", first.fits(0, 0, 0, 0), 4);
        Due.is("the power 0 is one", first.fits(0, 0, 0, 1), 0);
    }

    private static void eightEvents() {
        TermIdeals x = Due.with(3, 20);
        for (int i = 0; i < 8; i++) {
            Due.is("row " + i, x.event(i < 4 ? 0 : 1, i < 4 ? 50 + i : 0), i + 1);
            Due.is("AFTER " + i, x.after(0), i < 4 ? 3 + i : 9 - i);
        }
        Due.is("row 8", x.event(1, 0), Due.FULL);
        Due.is("there are", x.count(1), 8);
        Due.is("AFTER as before", x.after(0), 2);
        Due.is("none then", x.event(-1, Due.HIGH), 0);
        Due.is("none then", x.after(0), 2);
        Due.is("none then: JUMPS", x.after(1), 44);
        for (int i = 0; i < 8; i++) {
            Due.is("row " + i + " again", x.event(2, 1), i + 1);
        }
        Due.is("eight less, together", x.after(0), 1);
        Due.is("row 8 again", x.event(2, 1), Due.FULL);
    }

    private static void eightOfTheBook() {
        for (int otherwise = 0; otherwise <= 8; otherwise++) {
            TermIdeals x = Due.with(53);
            for (int i = 0; i < 8; i++) {
                int term = i % 2 == 0 ? 53 + i : 52 - i;
                int is = (i % 2 == 0) == (i < otherwise) ? 1 : 0;
                Due.is("row " + i, x.book(term, is), i + 1);
            }
            Due.is("LOOKED at", x.looked(), otherwise < 8 ? otherwise : -5);
            Due.is("row 8", x.book(0, 1), Due.FULL);
            Due.is("there are", x.count(2), 8);
            Due.is("LOOKED at as before", x.looked(), otherwise < 8 ? otherwise : -5);
            Due.is("it is empty then", x.book(-1, -9), 0);
            Due.is("LOOKED at none", x.looked(), -5);
        }
        for (int term = 0; term < 100; term++) {
            TermIdeals x = Due.with(53);
            Due.is("TERM " + term, x.book(term, 1), 1);
            Due.is("a by the tens, b by the ones", x.looked(), term / 10 >= 5 && term % 10 >= 3 ? -5 : 0);
            Due.is("TERM " + term, x.book(-1, 1), 0);
            Due.is("TERM " + term, x.book(term, 0), 1);
            Due.is("a by the tens, b by the ones", x.looked(), term / 10 >= 5 && term % 10 >= 3 ? 0 : -5);
        }
    }

    private static void sixtyItems() {
        for (int sort = 0; sort <= 4; sort++) {
            for (int n : new int[] {0, 1, 2, 59, 60}) {
                TermIdeals x = new TermIdeals();
                Due.is("a row of " + n, x.tape(5, sort, n), 1);
                for (int i = 0; i < n; i++) {
                    Due.is("all 0", x.peek(5, i), 0);
                    Due.is("item " + i, x.item(5, i, 1L), 1);
                    Due.is("item " + i, x.peek(5, i), 1);
                }
                Due.is("none at " + n, x.peek(5, n), Due.NO);
                Due.is("none at " + n, x.item(5, n, 1L), Due.PLACE);
                Due.is("all of it", x.shift(5, 0, 5, 0, n), n);
                Due.is("more than it", x.shift(5, 0, 5, 0, n + 1), Due.PLACE);
                Due.is("anew", x.tape(5, sort, n), 1);
                Due.is("all 0 again", n > 0 ? x.peek(5, n - 1) : 0, 0);
            }
        }
    }

    private static void fiveHundredAndTwelveCalls() {
        TermIdeals x = new TermIdeals();
        for (int i = 0; i < 170; i++) {
            Due.is("generate", x.generate(i % 2, i % 10, i / 17), 1);
            Due.is("told", x.told(i % 2, 0), 1);
            Due.is("clear", x.clear(i % 2), 1);
        }
        Due.is("call 511", x.count(4), 10);
        Due.is("call 512", x.back(), 9);
    }
}

/** Promises 8 and 9: feed, read. */
public final class TextTest {
    public static void main(String[] args) {
        feed();
        clauses();
        faults();
        refusedClauses();
        twelve();
        deedsByText();
        Due.end("TextTest");
    }

    private static void feed() {
        TermIdeals x = new TermIdeals();
        Due.is("8 -1", x.feed(-1), Due.BAD);
        Due.is("8 128", x.feed(128), Due.BAD);
        Due.is("8 far", x.feed(Due.LOW), Due.BAD);
        Due.is("8 like a sign by its lowest bits", x.feed(256 + 'u'), Due.BAD);
        for (int i = 1; i <= 100; i++) {
            Due.is("8 sign", x.feed(i % 2 == 0 ? 0 : 127), i);
        }
        Due.is("8 full", x.feed(0), Due.FULL);
        Due.is("8 BAD ahead of FULL", x.feed(128), Due.BAD);
        Due.is("8 count", x.count(3), 100);
        Due.is("9 fault", x.read(), -10);
        Due.is("9 empty then", x.count(3), 0);
        Due.is("8 again", x.feed('u'), 1);
    }

    private static void clauses() {
        TermIdeals x = new TermIdeals();
        Due.is("9 +", Due.read(x, "+034;+000;+177"), 3);
        Due.generators("9 + IDEAL A B", x, 0, "34 00");
        Due.generators("9 + IDEAL A B", x, 1, "77");
        Due.is("9 -", Due.read(x, "-01"), 1);
        Due.generators("9 - IDEAL K", x, 0, "34");
        Due.is("9 m", Due.read(x, "m1"), 1);
        Due.generators("9 m", x, 1, "77 34");
        Due.is("9 z", Due.read(x, "z0"), 1);
        Due.generators("9 z", x, 0, "");
        Due.is("9 u", Due.read(x, "u"), 1);
        Due.generators("9 u", x, 0, "34");
        Due.is("9 c", Due.read(x, "z0;+003;+020;c0"), 4);
        Due.generators("9 c", x, 0, "03 12 20");
        Due.is("9 empty then", x.count(3), 0);
    }

    private static void faults() {
        String[] texts = {
            "", "u;", "u;;", ";", "+", "+0", "+00", "+0000", "+00 0", "+0a0", "-0", "-", "-000", "z", "z00", "zz",
            "c", "c;", "m;u", "u1", "uu", "u u", " u", "u ", "U", "+000;x", "+000;+00", "+000;-0;", "/", "z/", "z:", "z0:"
        };
        int[] places = {
            0, 2, 2, 0, 1, 2, 3, 4, 3, 2, 2, 1, 3, 1, 2, 1,
            1, 1, 1, 1, 1, 1, 0, 1, 0, 5, 8, 7, 0, 1, 1, 2
        };
        for (int i = 0; i < texts.length; i++) {
            TermIdeals x = Due.with(11);
            Due.is("9 fault of '" + texts[i] + "'", Due.read(x, texts[i]), -10 - places[i]);
            Due.is("9 empty by a fault", x.count(3), 0);
            Due.generators("9 a fault does nothing", x, 0, "11");
            Due.is("9 a fault does nothing", x.count(4), 1);
        }
    }

    private static void refusedClauses() {
        TermIdeals x = new TermIdeals();
        Due.is("9 all refused", Due.read(x, "u;z0;z5;c0;c2;m2;-00;-90;+200"), 0);
        Due.is("9 one twice", Due.read(x, "+011;+011;+022"), 2);
        Due.is("9 none as such a number", Due.read(x, "-02;-01"), 1);
        Due.generators("9 done", x, 0, "11");
        Due.is("9 u till there is none", Due.read(x, "u;u;u;u"), 3);
        Due.generators("9 undone", x, 0, "");
    }

    private static void twelve() {
        TermIdeals x = new TermIdeals();
        Due.is("9 twelve", Due.read(x, "+011;u;+011;u;+011;u;+011;u;+011;u;+011;u"), 12);
        Due.is("9 twelve and ;", Due.read(x, "u;u;u;u;u;u;u;u;u;u;u;u;"), -10 - 23);
        Due.is("9 thirteen", Due.read(x, "u;u;u;u;u;u;u;u;u;u;u;u;u"), -10 - 23);
        Due.is("9 twelve long ones", Due.read(x, "+000;+001;+002;+003;+004;+005;+006;+100;+101;+102;+103;+104"), 11);
        Due.is("9 long and ;", Due.read(x, "+000;+001;+002;+003;+004;+005;+006;+100;+101;+102;+103;+104;"), -10 - 59);
        Due.is("9 the twelfth ends early", Due.read(x, "u;u;u;u;u;u;u;u;u;u;u;+00"), -10 - 25);
    }

    private static void deedsByText() {
        TermIdeals x = new TermIdeals();
        Due.read(x, "+011;+122;m0");
        Due.is("9 DEEDS", x.count(4), 3);
        Due.is("9 back", x.back(), 2);
        Due.generators("9 back", x, 0, "11");
        Due.is("9 back", x.back(), 1);
        Due.generators("9 back", x, 1, "");
    }
}

/** The sentences of "In doubt", and those of "Answers" that no call has for itself, a method each. */
public final class InDoubtTest {
    public static void main(String[] args) {
        thirteenthClause();
        behindTwelveDeeds();
        heightOfPowerNought();
        heightAsksForTheIdeal();
        metOfNeither();
        metByItsOwnWords();
        seenAsAFraction();
        whereGeneratorsLack();
        Due.end("InDoubtTest");
    }

    /** "A thirteenth CLAUSE is a FAULT at the ; behind the twelfth." */
    private static void thirteenthClause() {
        String twelve = "+000;u;-00;z1;c0;m0;+011;+022;u;m1;c1;z0";
        String[] behind = {"", ";", ";+011", ";u", ";?", "?", ";u;u"};
        for (String each : behind) {
            TermIdeals x = new TermIdeals();
            int answer = Due.read(x, twelve + each);
            Due.is("behind the twelfth: '" + each + "'", answer, each.isEmpty() ? 9 : -10 - twelve.length());
            Due.is("none is done by a FAULT", x.count(4) > 0 ? 1 : 0, each.isEmpty() ? 1 : 0);
            Due.is("THE TEXT is empty then", x.count(3), 0);
        }
    }

    /** "Of DEEDS those that went are gone for good: behind twelve, three that are taken back and one more, eight can be." */
    private static void behindTwelveDeeds() {
        TermIdeals x = new TermIdeals();
        for (int i = 0; i < 6; i++) {
            x.generate(0, 0, i);
            x.clear(0);
        }
        Due.is("behind twelve", x.count(4), 10);
        Due.is("one taken back", x.back(), 9);
        Due.is("two taken back", x.back(), 8);
        Due.is("three taken back", x.back(), 7);
        Due.generators("three taken back", x, 0, "04");
        Due.is("one more", x.generate(0, 7, 7), 2);
        Due.is("eight can be", x.count(4), 8);
        for (int i = 7; i >= 0; i--) {
            Due.is("they are taken back", x.back(), i);
        }
        Due.is("those that went are gone", x.back(), Due.STATE);
        Due.generators("what the second left", x, 0, "");
    }

    /** "HEIGHT of POWER 0 is 0, also of an IDEAL without GENERATORS." */
    private static void heightOfPowerNought() {
        TermIdeals x = Due.with(99);
        for (int a = 0; a <= 60; a++) {
            Due.is("POWER 0 at " + a, x.height(0, 10, a), 0);
            Due.is("POWER 0 of none at " + a, x.height(1, 10, a), 0);
            Due.is("POWER 1 at " + a, x.height(0, 11, a), a >= 9 ? 9 : -5);
            Due.is("POWER 1 of none at " + a, x.height(1, 11, a), -5);
        }
    }

    /** "height() with what 1 or 2 asks all the same whether there is that IDEAL: NONE." */
    private static void heightAsksForTheIdeal() {
        TermIdeals x = Due.with(new int[] {3}, new int[] {20});
        for (int what = 1; what <= 2; what++) {
            Due.is("there is none below 0", x.height(-1, what, 0), Due.NONE);
            Due.is("there is none above 1", x.height(2, what, 0), Due.NONE);
            Due.is("and that is asked ahead of a", x.height(2, what, 61), Due.NONE);
            Due.is("which of the two does not matter", x.height(0, what, 2) - x.height(1, what, 2), 0);
        }
        Due.is("SUM", x.height(1, 1, 2), 0);
        Due.is("PRODUCT", x.height(1, 2, 2), 3);
    }

    /** "MET is 0 if neither has GENERATORS" */
    private static void metOfNeither() {
        TermIdeals x = new TermIdeals();
        Due.is("MET", x.reduces(1), 0);
        Due.is("no REDUCTION", x.reduces(0), 0);
        x.generate(1, 0, 0);
        Due.is("MET of one that has", x.reduces(1), -5);
        x.clear(1);
        Due.is("MET of neither again", x.reduces(1), 0);
    }

    /** "and it goes by its own words, whether IDEAL 0 is a REDUCTION or not." */
    private static void metByItsOwnWords() {
        // 22 isn't IN 40 31 13 04, but times each of these it is IN its POWER 2
        TermIdeals x = Due.with(new int[] {40, 4, 22}, new int[] {40, 31, 13, 4});
        Due.is("no REDUCTION", x.reduces(0), 0);
        Due.is("MET all the same", x.reduces(1), 1);
        TermIdeals late = Due.with(new int[] {70, 7}, new int[] {70, 7, 16});
        Due.is("a REDUCTION", late.reduces(0), 1);
        Due.is("MET by none up to 5", late.reduces(1), -5);
        TermIdeals five = Due.with(new int[] {60, 6}, new int[] {60, 6, 15});
        Due.is("MET by 5", five.reduces(1), 5);
        // POWER 1 of an IDEAL without GENERATORS has no TERM, and no PRODUCT with it has
        TermIdeals none = Due.with(11);
        Due.is("no REDUCTION of none", none.reduces(0), 0);
        Due.is("MET by 1, of none", none.reduces(1), 1);
    }

    /** "What is SEEN is compared as a fraction: 2 by 4 is 1 by 2." */
    private static void seenAsAFraction() {
        TermIdeals x = Due.with(20);
        for (int times = 1; times <= 49; times++) {
            x.see(-1, 0, 0);
            x.see(0, times, 2 * times);
            Due.is(times + " by " + 2 * times, x.fits(0, 0, 0, 1), 2);
            x.see(-1, 0, 0);
            x.see(0, times, 2 * times + 1);
            Due.is(times + " by " + (2 * times + 1), x.fits(0, 0, 0, 1), times == 1 ? 3 : -5);
        }
        // 6 by 4 is JUMP 2 of 20, which isn't in lowest terms where it is reckoned: 3 by 2
        x.see(-1, 0, 0);
        x.see(3, 1, 1);
        Due.is("4 by 4 is 1", x.fits(0, 0, 0, 1), 4);
        x.see(3, 99, 99);
        Due.is("99 by 99, too", x.fits(0, 0, 0, 1), 4);
        x.see(1, 2, 4);
        Due.is("2 by 4 is as 1 by 2", x.fits(0, 0, 0, 1), 4);
    }

    /** "Where an IDEAL without GENERATORS is asked for FACES, the HULL, what is HELD, JUMPS, SHORT, ODDS: STATE (NO ..)." */
    private static void whereGeneratorsLack() {
        TermIdeals x = Due.with(new int[] {55}, new int[] {3, 20});
        x.drop(0, 0);
        Due.is("FACES, how many", x.told(0, 2), Due.STATE);
        Due.is("FACES", x.face(0, 0, 0), Due.STATE);
        Due.is("the HULL", x.in(0, 9, 9, 1), Due.STATE);
        Due.is("the HULL: CLOSED", x.told(0, 3), Due.STATE);
        Due.is("the HULL: close", x.close(0), Due.STATE);
        Due.is("what is HELD", x.held(0, 9, 9, 1, 99), Due.STATE);
        Due.is("what isn't", x.reason(0, 0, 0, 99, 1, 0), Due.STATE);
        Due.is("JUMPS, how many", x.told(0, 4), Due.STATE);
        Due.is("JUMPS", x.jumps(0, 0, 0), Due.NO);
        Due.is("JUMP", x.jump(0, 0, 0, 0), Due.NO);
        Due.is("SHORT", x.lacks(0, 1, 1), Due.STATE);
        Due.is("ODDS", x.odds(0, 1, 1, 0), Due.NO);
        Due.is("MEAN", x.mean(0, 0), Due.NO);
        Due.is("AFTER: JUMPS", x.after(1), Due.STATE);
        Due.is("AFTER: CLOSED", x.after(2), Due.STATE);
        Due.is("AFTER: how many", x.after(0), 0);
        Due.is("IN", x.in(0, 9, 9, 0), 0);
        Due.is("HEIGHT", x.height(0, 0, 60), -5);
        Due.is("the other has some", x.told(1, 2), 3);
    }
}

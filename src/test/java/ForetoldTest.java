/** Promises 19 to 30: what is foretold, and images. */
public final class ForetoldTest {
    private static final int NONE = SpentWeeks.NONE, BAD = SpentWeeks.BAD, STATE = SpentWeeks.STATE;
    private static final int NULL = -1000011, PLACE = -1000012;
    private static final String CALM = "y2,5;c0,10,50;s0,4,0;h0,30,99;t0,20,5;p0,15,40;";
    private static final Check check = new Check();

    public static void main(String[] args) {
        monthsAhead();
        daysLapse();
        trialsFirst();
        deedsAreCovered();
        deedsAreOrdered();
        marketsRest();
        ringsAreSold();
        verdictsAreFalse();
        setsAddUp();
        imagesAreKept();
        nothingChanges();
        check.end();
    }

    private static void monthsAhead() {
        // X by a SEED of 1: 16807, 282475249, 1622650073, 984943658, 1144108930, 470211272
        SpentWeeks x = Check.with("y1,30;c9,0,3;c9,0,0;c9,0,0;");
        x.sentence(0, 5);
        check.due("none ahead", x.ahead(0, 0, 1, 0), 5);
        check.due("one ahead: spent 1", x.ahead(0, 1, 1, 0), 4);
        check.due("two ahead: spent 16, lapsed", x.ahead(0, 2, 1, 0), 0);
        check.due("owes 12", x.ahead(0, 2, 1, 1), 12);
        check.due("cash", x.ahead(0, 2, 1, 2), 3);
        check.due("done", x.ahead(0, 2, 1, 3), 2);
        check.due("1 owes 14", x.ahead(1, 2, 1, 1), 14);
        check.due("2 owes 18 and 1 + 47021127 % 30", x.ahead(2, 2, 1, 1), 46);
        check.due("60 ahead", x.ahead(0, 60, 999999, 3) > 30 ? 1 : 0, 1);
        check.due("n below", x.ahead(0, -1, 1, 0), BAD);
        check.due("n above", x.ahead(0, 61, 1, 0), BAD);
        check.due("seed below", x.ahead(0, 1, 0, 0), BAD);
        check.due("seed above", x.ahead(0, 1, 1000000, 0), BAD);
        check.due("what below", x.ahead(0, 1, 1, -1), BAD);
        check.due("what above", x.ahead(0, 1, 1, 4), BAD);
        check.due("nobody", x.ahead(3, 1, 1, 0), BAD);
        check.due("nobody", x.ahead(-1, 1, 1, 0), BAD);
        check.due("no county", new SpentWeeks().ahead(0, 1, 1, 0), BAD);
    }

    private static void daysLapse() {
        SpentWeeks x = Check.with("y2,5;c9,10,50;h9,30,99;t9,20,5;");
        for (int one = 0; one < 3; one++) {
            x.sentence(one, 40);
        }
        x.month(2);
        for (int one = 0; one < 3; one++) {
            x.sentence(one, 3);
        }
        int first = x.lot(0, 0, 0);
        check.due("none", x.lapsed(0, 0), 0);
        check.due("in one", x.lapsed(0, 1), 0);
        check.due("in two", x.lapsed(0, 2), first);
        check.due("in three", x.lapsed(0, 3), first + 3);
        check.due("in sixty", x.lapsed(0, 60), first + 3);
        check.due("an heir's", x.lapsed(1, 60), 0);
        check.due("a thief's", x.lapsed(2, 60), x.person(2, 0));
        x.month(2);
        check.due("none", x.lapsed(0, 0), 0);
        check.due("in one, by now", x.lapsed(0, 1) == x.lot(0, 0, 0) && x.lapsed(0, 1) > 0 ? 1 : 0, 1);
        check.due("n below", x.lapsed(0, -1), BAD);
        check.due("n above", x.lapsed(0, 61), BAD);
        check.due("nobody", x.lapsed(3, 1), BAD);
        check.due("nobody", x.lapsed(-1, 1), BAD);
    }

    private static void trialsFirst() {
        SpentWeeks x = Check.with("y9,30;c9,0,3;c9,0,0;c9,0,0;");
        x.sentence(0, 500);
        x.sentence(2, 500);
        x.deed(1, 7);
        check.due("deeds in none", x.triedFirst(0, 1, 0), 0);
        check.due("days in none", x.triedFirst(0, 1, 1), 0);
        check.due("deeds in one", x.triedFirst(1, 1, 0), 2);
        check.due("days in one", x.triedFirst(1, 1, 1), 19);
        check.due("deeds in two", x.triedFirst(2, 1, 0), 5);
        check.due("days in two", x.triedFirst(2, 1, 1), 19 + 16 + 14 + 28);
        SpentWeeks less = Check.with("y9,30;p0,0,3;");
        less.deed(0, 21);
        check.due("below 0", less.triedFirst(1, 1, 1), -11);
        check.due("n below", x.triedFirst(-1, 1, 0), BAD);
        check.due("n above", x.triedFirst(61, 1, 0), BAD);
        check.due("seed below", x.triedFirst(1, 0, 0), BAD);
        check.due("seed above", x.triedFirst(1, 1000000, 0), BAD);
        check.due("what below", x.triedFirst(1, 1, -1), BAD);
        check.due("what above", x.triedFirst(1, 1, 2), BAD);
        check.due("STATE ahead of BAD", new SpentWeeks().triedFirst(-1, 0, 9), STATE);
        check.due("nobody", Check.with("y1,1;").triedFirst(60, 1, 0), 0);
    }

    private static void deedsAreCovered() {
        SpentWeeks x = Check.with(CALM);
        Check.row(x, 0, 1, 9, 6, 11, 2, 0, 999, 999);
        check.due("one", x.cover(0, 0, 0, 1), 9);
        check.due("two", x.cover(0, 0, 0, 2), 15);
        check.due("the third, too, as lots lapse behind it", x.cover(0, 0, 0, 3), 26);
        check.due("the fourth is behind the lapse", x.cover(0, 0, 0, 4), NONE);
        check.due("of an heir", x.cover(2, 0, 0, 4), 28);
        check.due("of 999", x.cover(2, 0, 5, 1), 999);
        check.due("of more", x.cover(2, 0, 5, 2), NONE);
        check.due("half is owed", x.cover(4, 0, 3, 1), 1);
        x.sentence(0, 9);
        check.due("none", x.cover(0, 0, 0, 1), 0);
        x.deed(0, 12);
        check.due("owing as much as now", x.cover(0, 0, 0, 1), 9);
        x.deed(4, 40);
        check.due("less is owed behind", x.cover(4, 0, 0, 2), 0);
        check.due("a thief spends the new ones first", coverOfThief(), 6);
        check.due("n below", x.cover(0, 0, 0, 0), BAD);
        check.due("n above", x.cover(0, 0, 0, 13), BAD);
        check.due("nobody", x.cover(5, 0, 0, 1), BAD);
        check.due("row", x.cover(0, 8, 0, 1), BAD);
        check.due("BAD ahead of NULL", x.cover(0, 1, 0, 13), BAD);
        check.due("NULL", x.cover(0, 1, -1, 1), NULL);
        check.due("PLACE", x.cover(0, 0, -1, 1), PLACE);
        check.due("PLACE", x.cover(0, 0, 6, 2), PLACE);
        check.due("PLACE", x.cover(0, 0, Integer.MAX_VALUE, 12), PLACE);
        check.due("an item of 0", x.cover(0, 0, 4, 1), BAD);
        x.row(3, 2, 12);
        for (int k = 0; k < 12; k++) {
            x.set(3, k, 1);
        }
        check.due("twelve", x.cover(2, 3, 0, 12), 12);
        x.set(3, 11, 1000);
        check.due("an item of 1000", x.cover(2, 3, 0, 12), BAD);
        x.set(3, 11, -1);
        check.due("an item of -1", x.cover(2, 3, 0, 12), BAD);
    }

    /** His old LOT of 5 lapses with the second MONTH, so that the new one covers the third. */
    private static int coverOfThief() {
        SpentWeeks x = Check.with("y2,5;t0,1,1;");
        x.sentence(0, 5);
        x.month(1);
        Check.row(x, 0, 0, 2, 2, 2);
        return x.cover(0, 0, 0, 3);
    }

    private static void deedsAreOrdered() {
        SpentWeeks x = Check.with("y1,5;c0,1,1;p0,1,1;h0,1,1;");
        Check.row(x, 0, 1, 3, 3, 8, 5, 999, 1, 1, 1, 0);
        x.sentence(0, 9);
        check.due("owes least", x.bestOrder(0, 0, 0, 4, -1), 10);
        int[] first = {0, 2, 1, 3};
        for (int k = 0; k < 4; k++) {
            check.due("of 0", x.bestOrder(0, 0, 0, 4, k), first[k]);
        }
        x.month(1);
        check.due("what is left lapses with this month", x.bestOrder(0, 0, 0, 3, -1), 6);
        check.due("so the greatest first", x.bestOrder(0, 0, 0, 3, 0), 2);
        check.due("then by places", x.bestOrder(0, 0, 0, 3, 1), 0);
        check.due("then by places", x.bestOrder(0, 0, 0, 3, 2), 1);
        check.due("places begin at i", x.bestOrder(0, 0, 1, 2, 0), 1);
        check.due("places begin at i", x.bestOrder(0, 0, 1, 2, 1), 0);
        check.due("half is owed each month", x.bestOrder(1, 0, 0, 4, -1), 3);
        int[] halves = {0, 2, 3, 1};
        for (int k = 0; k < 4; k++) {
            check.due("of 1", x.bestOrder(1, 0, 0, 4, k), halves[k]);
        }
        check.due("six", x.bestOrder(2, 0, 0, 6, -1), 1019);
        for (int k = 0; k < 6; k++) {
            check.due("six in order", x.bestOrder(2, 0, 0, 6, k), k);
        }
        check.due("one", x.bestOrder(2, 0, 7, 1, 0), 0);
        check.due("n below", x.bestOrder(0, 0, 0, 0, -1), BAD);
        check.due("n above", x.bestOrder(0, 0, 0, 7, 0), BAD);
        check.due("k below", x.bestOrder(0, 0, 0, 2, -2), BAD);
        check.due("k above", x.bestOrder(0, 0, 0, 2, 2), BAD);
        check.due("nobody", x.bestOrder(3, 0, 0, 2, 0), BAD);
        check.due("row", x.bestOrder(0, -1, 0, 2, 0), BAD);
        check.due("BAD ahead of NULL", x.bestOrder(0, 1, 0, 2, 2), BAD);
        check.due("NULL", x.bestOrder(0, 1, -1, 2, 0), NULL);
        check.due("PLACE", x.bestOrder(0, 0, 8, 2, 0), PLACE);
        check.due("PLACE", x.bestOrder(0, 0, -1, 2, 0), PLACE);
        check.due("an item of 0", x.bestOrder(0, 0, 7, 2, 0), BAD);
        for (int k = 0; k < 11; k++) {
            x.deed(2, 999);
        }
        check.due("another's order", x.bestOrder(0, 0, 0, 3, 0), 2);
        check.due("owing 9999 ahead", x.bestOrder(2, 0, 0, 3, -1), 9999);
        check.due("the first order", x.bestOrder(2, 0, 0, 3, 0), 0);
    }

    private static void marketsRest() {
        SpentWeeks x = Check.with(CALM);
        check.due("at rest at once", x.atRest(0), 0);
        check.due("nobody sells", x.atRest(1), 0);
        check.due("nobody buys", x.atRest(2), 0);
        x.sentence(0, 6);
        x.sentence(1, 3);
        x.sentence(2, 50);
        x.deed(3, 9);
        x.deed(4, 4);
        x.deed(2, 60);
        x.sentence(2, 7);
        int[] prices = {0, 3, 4, 9, 10, 15, 16, 20, 21, 30, 31, 99};
        int[] supply = {0, 0, 3, 3, 9, 9, 9, 9, 9, 9, 9, 9};
        int[] demand = {23, 23, 23, 23, 23, 23, 19, 19, 10, 10, 0, 0};
        for (int k = 0; k < prices.length; k++) {
            check.due("SUPPLY at " + prices[k], x.market(prices[k], 0), supply[k]);
            check.due("DEMAND at " + prices[k], x.market(prices[k], 1), demand[k]);
        }
        check.due("at rest", x.atRest(0), 31);
        check.due("sellers", x.atRest(1), 3);
        check.due("buyers", x.atRest(2), 0);
        x.sentence(0, 1);
        check.due("at rest as soon as it is alike", x.atRest(0), 21);
        check.due("sellers", x.atRest(1), 3);
        check.due("buyers", x.atRest(2), 4);
        SpentWeeks none = Check.with("y1,1;c0,99,0;c0,99,0;");
        none.deed(0, 2);
        none.sentence(1, 1);
        for (int what = 0; what < 3; what++) {
            check.due("never at rest", none.atRest(what), NONE);
        }
        none.sentence(1, 1);
        check.due("at the top", none.atRest(0), 99);
        check.due("seller", none.atRest(1), 2);
        check.due("buyer", none.atRest(2), 1);
        check.due("p below", x.market(-1, 0), BAD);
        check.due("p above", x.market(100, 0), BAD);
        check.due("what below", x.market(0, -1), BAD);
        check.due("what above", x.market(0, 2), BAD);
        check.due("what below", x.atRest(-1), BAD);
        check.due("what above", x.atRest(3), BAD);
        check.due("STATE ahead of BAD", new SpentWeeks().market(-1, 0), STATE);
        check.due("STATE ahead of BAD", new SpentWeeks().atRest(-1), STATE);
        check.due("nobody, at rest", Check.with("y1,1;").atRest(0), 0);
    }

    private static void ringsAreSold() {
        SpentWeeks x = Check.with("y2,5;c0,10,50;s0,4,0;t0,20,5;");
        x.sentence(0, 6);
        Check.row(x, 0, 1, 0, 1, 6, 30, 1, 2, 6, 12, 2, 0, 5, 100, 2, 0, 2, 1, 2, 0, 1, 1);
        check.due("one", x.ring(0, 0, 1, 0), 1);
        check.due("0 lost 30, 1 lost 6", x.ring(0, 0, 1, 1), 3);
        check.due("two", x.ring(0, 0, 2, 0), 2);
        check.due("0 lost, 1 lost", x.ring(0, 0, 2, 1), 3);
        check.due("three", x.ring(0, 0, 3, 0), 3);
        check.due("0 lost 80, 1 lost 18", x.ring(0, 0, 3, 1), 3);
        check.due("the fourth cannot be", x.ring(0, 0, 4, 0), 3);
        check.due("none behind it", x.ring(0, 0, 5, 0), 3);
        check.due("the second cannot be the first", x.ring(0, 4, 1, 0), 0);
        check.due("nobody lost", x.ring(0, 4, 1, 1), 0);
        check.due("by the worth alone", onlyWorth(), 1);
        check.due("PLACE", x.ring(0, 1, 5, 0), PLACE);
        check.due("PLACE", x.ring(0, -1, 1, 0), PLACE);
        check.due("PLACE", x.ring(0, 0, 6, 0), PLACE);
        check.due("NULL", x.ring(1, -1, 1, 0), NULL);
        check.due("n below", x.ring(0, 0, 0, 0), BAD);
        check.due("n above", x.ring(0, 0, 10, 0), BAD);
        check.due("what below", x.ring(0, 0, 1, -1), BAD);
        check.due("what above", x.ring(0, 0, 1, 2), BAD);
        check.due("row", x.ring(8, 0, 1, 0), BAD);
        check.due("STATE ahead of BAD", new SpentWeeks().ring(8, 0, 0, 0), STATE);
        badSale(x, 0, 0, 1, 1);
        badSale(x, 3, 0, 1, 1);
        badSale(x, 0, -1, 1, 1);
        badSale(x, 0, 1, 0, 1);
        badSale(x, 0, 1, 1000, 1);
        badSale(x, 0, 1, 1, -1);
        badSale(x, 0, 1, 1, 1000);
        x.row(2, 2, 36);
        for (int k = 0; k < 9; k++) {
            x.set(2, 4 * k + 1, 1);
            x.set(2, 4 * k + 2, 1);
        }
        check.due("nine", x.ring(2, 0, 9, 0), 6);
        x.row(2, 2, 4);
        for (int k = 0; k < 11; k++) {
            x.sentence(1, k < 10 ? 999 : 9);
        }
        Check.row(x, 2, 2, 0, 1, 1, 0);
        check.due("UNSPENT above 9999", x.ring(2, 0, 1, 0), 0);
        check.due("nobody is there", nobodyInARing(), BAD);
    }

    /** A SALE that cannot be asked for is BAD, also behind one that cannot be done. */
    private static void badSale(SpentWeeks x, int... sale) {
        Check.row(x, 3, 2, sale);
        check.due("a sale that cannot be asked for", x.ring(3, 0, 1, 0), BAD);
        Check.row(x, 3, 2, 2, 1, 999, 1, sale[0], sale[1], sale[2], sale[3]);
        check.due("behind another", x.ring(3, 0, 2, 0), BAD);
        check.due("not asked for", x.ring(3, 0, 1, 0), 0);
    }

    private static int onlyWorth() {
        SpentWeeks x = Check.with("y2,5;c0,1,0;c0,0,0;");
        x.sentence(0, 2);
        Check.row(x, 0, 0, 0, 1, 1, 0);
        return x.ring(0, 0, 1, 1);
    }

    private static int nobodyInARing() {
        SpentWeeks x = Check.with("y2,5;");
        x.row(0, 0, 4);
        return x.ring(0, 0, 1, 0);
    }

    private static void verdictsAreFalse() {
        SpentWeeks x = Check.with(CALM);
        x.sentence(0, 11);
        x.sentence(2, 10);
        x.sentence(3, 5);
        Check.row(x, 0, 1, 99, 0, 0, 10, 6, 0, 9999);
        check.due("who", x.wrong(0, 1, -1), 1 | 8);
        check.due("11 to 0 by 5 each", x.wrong(0, 1, 0), 3);
        check.due("so it is", x.wrong(0, 1, 1), 0);
        check.due("so it is", x.wrong(0, 1, 2), 0);
        check.due("more than there are", x.wrong(0, 1, 3), NONE);
        x.set(0, 1, 1);
        check.due("11 to 1", x.wrong(0, 1, 0), 2);
        x.set(0, 1, 10);
        check.due("11 to 10", x.wrong(0, 1, 0), 1);
        check.due("all told too much", x.wrong(0, 2, -1), 31);
        check.due("PLACE", x.wrong(0, 3, -1), PLACE);
        check.due("PLACE", x.wrong(0, -1, -1), PLACE);
        check.due("NULL", x.wrong(1, -1, -1), NULL);
        check.due("row", x.wrong(8, 0, -1), BAD);
        check.due("person below", x.wrong(0, 0, -2), BAD);
        check.due("nobody", x.wrong(0, 0, 5), BAD);
        x.set(0, 5, 10000);
        check.due("an item above", x.wrong(0, 1, 0), BAD);
        x.set(0, 5, -1);
        check.due("an item below", x.wrong(0, 1, 0), BAD);
        check.due("not among them", x.wrong(0, 0, 0), NONE);
        check.due("STATE ahead of BAD", new SpentWeeks().wrong(8, 0, -1), STATE);
        SpentWeeks nobody = Check.with("y1,1;");
        nobody.row(0, 0, 0);
        check.due("of nobody", nobody.wrong(0, 0, -1), 0);
        check.due("of nobody, beyond", nobody.wrong(0, 1, -1), PLACE);
        check.due("person 0 is none", nobody.wrong(0, 0, 0), BAD);
    }

    private static void setsAddUp() {
        SpentWeeks x = new SpentWeeks();
        Check.row(x, 0, 1, 5, 3, 2, 5, 8, 1000, 0);
        check.due("how many", x.satFor(0, 0, 5, 5, 0), 3);
        check.due("the least", x.satFor(0, 0, 5, 5, 1), 1);
        check.due("of 8: 5 3, 3 5, 8", x.satFor(0, 0, 5, 8, 0), 3);
        check.due("the least", x.satFor(0, 0, 5, 8, 1), 3);
        check.due("places begin at i", x.satFor(0, 1, 4, 8, 1), 5);
        check.due("no days: the empty set", x.satFor(0, 0, 5, 0, 0), 1);
        check.due("it is 0", x.satFor(0, 0, 5, 0, 1), 0);
        check.due("none", x.satFor(0, 0, 5, 4, 0), 0);
        check.due("NONE", x.satFor(0, 0, 5, 4, 1), NONE);
        check.due("of no weights", x.satFor(0, 7, 0, 0, 0), 1);
        check.due("of no weights", x.satFor(0, 7, 0, 1, 1), NONE);
        x.row(1, 2, 16);
        for (int k = 0; k < 16; k++) {
            x.set(1, k, 999);
        }
        check.due("8 of 16", x.satFor(1, 0, 16, 7992, 0), 12870);
        check.due("the first 8", x.satFor(1, 0, 16, 7992, 1), 255);
        check.due("10 of 16", x.satFor(1, 0, 16, 9990, 0), 8008);
        check.due("the first 10", x.satFor(1, 0, 16, 9990, 1), 1023);
        x.set(1, 15, 9);
        check.due("with the last", x.satFor(1, 0, 16, 9999, 1), 32768 | 1023);
        check.due("n below", x.satFor(0, 0, -1, 0, 0), BAD);
        check.due("n above", x.satFor(0, 0, 17, 0, 0), BAD);
        check.due("days below", x.satFor(0, 0, 1, -1, 0), BAD);
        check.due("days above", x.satFor(0, 0, 1, 10000, 0), BAD);
        check.due("what below", x.satFor(0, 0, 1, 0, -1), BAD);
        check.due("what above", x.satFor(0, 0, 1, 0, 2), BAD);
        check.due("row", x.satFor(8, 0, 1, 0, 0), BAD);
        check.due("NULL", x.satFor(2, 0, 1, 0, 0), NULL);
        check.due("PLACE", x.satFor(0, -1, 1, 0, 0), PLACE);
        check.due("PLACE", x.satFor(0, 6, 2, 0, 0), PLACE);
        check.due("PLACE", x.satFor(0, 8, 0, 0, 0), PLACE);
        check.due("an item of 1000", x.satFor(0, 5, 1, 0, 0), BAD);
        check.due("an item of 0", x.satFor(0, 6, 1, 0, 0), BAD);
    }

    private static void imagesAreKept() {
        SpentWeeks x = new SpentWeeks();
        check.due("BAD ahead of STATE", x.image(2), BAD);
        check.due("BAD ahead of STATE", x.restore(-1), BAD);
        check.due("no county", x.image(0), STATE);
        check.due("none kept", x.restore(0), STATE);
        Check.county(x, CALM);
        x.sentence(0, 9);
        x.deed(3, 4);
        x.month(1);
        check.due("image(0)", x.image(0), 1);
        check.due("an image is no act", x.count(5), 3);
        check.due("none kept", x.restore(1), STATE);
        x.deed(0, 20);
        x.dies(0, 1);
        x.month(1);
        check.due("image(1)", x.image(1), 1);
        Check.county(x, "y1,1;t9,9,9;");
        check.due("restore(0)", x.restore(0), 1);
        check.due("people", x.count(1), 5);
        check.due("MONTH", x.count(2), 1);
        check.due("kind", x.kind(0), 1);
        check.due("UNSPENT", x.person(0, 0), 9);
        check.due("OWES", x.person(3, 1), 4);
        check.due("CASH", x.person(0, 2), 50);
        check.due("lapses by its TERM", x.lapsed(0, 1), 0);
        check.due("lapses by its TERM", x.lapsed(0, 2), 9);
        check.due("acts", x.count(5), 0);
        check.due("undo", x.undo(), STATE);
        x.sentence(0, 1);
        check.due("restore(1)", x.restore(1), 1);
        check.due("UNSPENT", x.person(0, 0), 0);
        check.due("CASH", x.person(1, 2), 50);
        check.due("MONTH", x.count(2), 2);
        check.due("restore(0) again", x.restore(0), 1);
        check.due("UNSPENT", x.person(0, 0), 9);
        x.sentence(0, 3);
        check.due("image(0) anew", x.image(0), 1);
        x.undo();
        x.restore(0);
        check.due("UNSPENT", x.person(0, 0), 12);
        check.due("image(-1)", x.image(-1), BAD);
        check.due("restore(2)", x.restore(2), BAD);
    }

    private static void nothingChanges() {
        SpentWeeks x = Check.with("y2,20;c5,10,50;s9,4,0;h3,30,99;t7,20,5;p6,15,40;");
        for (int one = 0; one < 5; one++) {
            x.sentence(one, 9 + one);
            x.deed(one, 5 * one);
        }
        Check.row(x, 0, 1, 0, 1, 4, 9, 3, 2, 1, 7);
        Check.row(x, 1, 1, 9, 8, 7, 6, 5);
        String ahead = Tale.now(x);
        x.ahead(0, 60, 5, 1);
        x.triedFirst(60, 5, 1);
        x.lapsed(0, 60);
        x.cover(3, 1, 0, 5);
        x.bestOrder(4, 1, 0, 5, 2);
        x.atRest(0);
        x.market(20, 1);
        x.ring(0, 0, 2, 1);
        x.wrong(1, 0, -1);
        x.satFor(1, 0, 5, 14, 1);
        x.image(0);
        check.due("all is as ahead", ahead.equals(Tale.now(x)) ? 1 : 0, 1);
    }
}

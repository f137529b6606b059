/** What is done, at its bounds: LOTS, DEEDS, ACTS, MONTHS, and promises 9 to 18. */
final class ActsBounds {
    private static final int BAD = SpentWeeks.BAD, STATE = SpentWeeks.STATE, FULL = SpentWeeks.FULL;
    /** Nobody does anything by himself; 0 citizen, 1 saint, 2 heir, 3 thief, 4 pardoned, 5 citizen. */
    private static final String CALM = "y2,5;c0,10,50;s0,4,0;h0,30,99;t0,20,5;p0,15,40;c0,0,0;";

    private final Doc doc;

    ActsBounds(Doc doc) {
        this.doc = doc;
    }

    void hold() {
        lotsAreSixAtMost();
        daysStandBehind();
        daysAreSpent();
        deedsAreOwed();
        actsAreKept();
        eachActIsUndone();
        monthsAreDrawn();
        lotsLapse();
        undoHasAnEnd();
        sentencesHaveBounds();
        deedsHaveBounds();
        salesHaveBounds();
        payingHasBounds();
        dyingHasBounds();
        pardonsHaveBounds();
        monthsHaveBounds();
        peopleAreAsked();
        lotsAreAsked();
    }

    private void lots(String name, SpentWeeks x, int one, int... daysAndMonths) {
        int n = daysAndMonths.length / 2;
        doc.due(name + ": how many LOTS of " + one, x.person(one, 6), n);
        for (int k = 0; k < n; k++) {
            doc.due(name + ": DAYS of LOT " + k + " of " + one, x.lot(one, k, 0), daysAndMonths[2 * k]);
            doc.due(name + ": MONTH of LOT " + k + " of " + one, x.lot(one, k, 1), daysAndMonths[2 * k + 1]);
        }
        doc.due(name + ": no LOT more", x.lot(one, n, 0), BAD);
    }

    private void lotsAreSixAtMost() {
        doc.terms();
        doc.says("LOTS of one, 6 at most, each of DAYS (above 0) and of the MONTH in which they came; UNSPENT: DAYS of all.");
        SpentWeeks x = Check.with(CALM);
        lots("nobody has one at first", x, 0);
        doc.due("UNSPENT of none", x.person(0, 0), 0);
        for (int k = 1; k <= 7; k++) {
            x.sentence(0, k);
            doc.due("LOTS by SENTENCE " + k, x.person(0, 6), Math.min(6, k));
        }
        doc.due("UNSPENT", x.person(0, 0), 28);
        doc.due("the others have none", x.person(1, 6), 0);
    }

    private void daysStandBehind() {
        doc.says("DAYS that come as a LOT stand behind those that are there; if there are 6, they come to the DAYS of the"
            + " last of these (its MONTH stays).");
        SpentWeeks x = Check.with("y24,5;c0,10,50;c0,0,0;");
        for (int k = 0; k < 5; k++) {
            x.sentence(0, 10 + k);
            x.month(1);
        }
        lots("five, in order", x, 0, 10, 0, 11, 1, 12, 2, 13, 3, 14, 4);
        x.sentence(0, 15);
        x.month(1);
        lots("the sixth stands by itself", x, 0, 10, 0, 11, 1, 12, 2, 13, 3, 14, 4, 15, 5);
        x.sentence(0, 100);
        lots("the seventh does not", x, 0, 10, 0, 11, 1, 12, 2, 13, 3, 14, 4, 115, 5);
        x.sentence(1, 7);
        x.sale(1, 0, 7, 0);
        lots("what is bought, too", x, 0, 10, 0, 11, 1, 12, 2, 13, 3, 14, 4, 122, 5);
        x.deed(0, 10);
        x.sentence(0, 3);
        lots("there is room again", x, 0, 11, 1, 12, 2, 13, 3, 14, 4, 122, 5, 3, 6);
    }

    private void daysAreSpent() {
        doc.says("To SPEND n of them: from the first LOT on; a thief, one who was pardoned: from the last one on; LOTS"
            + " without DAYS are gone.");
        for (int one = 0; one < 5; one++) {
            boolean fromLast = one >= 3;
            SpentWeeks x = Check.with(CALM);
            x.sentence(one, 4);
            x.sentence(one, 5);
            x.month(1);
            x.sentence(one, 6);
            x.deed(one, fromLast ? 5 : 3);
            lots("one DAY of a LOT is left", x, one, fromLast ? new int[] {4, 0, 5, 0, 1, 1} : new int[] {1, 0, 5, 0, 6, 1});
            x.deed(one, 1);
            lots("the LOT is gone", x, one, fromLast ? new int[] {4, 0, 5, 0} : new int[] {5, 0, 6, 1});
            x.deed(one, 6);
            lots("one more, and a part", x, one, fromLast ? new int[] {3, 0} : new int[] {5, 1});
            x.deed(one, x.person(one, 0));
            lots("all are gone", x, one);
            doc.due("nothing is OWED", x.person(one, 1), 0);
        }
    }

    private void deedsAreOwed() {
        doc.says("A DEED of a weight: as many DAYS are SPENT, as far as he has them; what is missing he OWES, too (9999 at"
            + " most); it is his DONE, one more.");
        SpentWeeks x = Check.with(CALM);
        x.sentence(0, 10);
        doc.due("as many as he has", x.deed(0, 10), 0);
        x.sentence(0, 10);
        doc.due("one more than he has", x.deed(0, 11), 1);
        doc.due("none are left", x.person(0, 0), 0);
        doc.due("too: what he OWED stays", x.deed(0, 5), 6);
        doc.due("DONE", x.person(0, 3), 3);
        Check.owe(x, 5, 9998);
        doc.due("9998", x.person(5, 1), 9998);
        doc.due("9999", x.deed(5, 1), 9999);
        doc.due("9999 at most", x.deed(5, 1), 9999);
        doc.due("9999 at most", x.deed(5, 999), 9999);
        doc.due("DONE all the same", x.person(5, 3), 14);
        for (int k = 0; k < 3; k++) {
            x.undo();
        }
        doc.due("9998 again", x.person(5, 1), 9998);
        doc.due("by one that goes beyond", x.deed(5, 2), 9999);
    }

    private void actsAreKept() {
        doc.says("ACTS (24 at most are kept, of more the oldest is forgotten; each can be undone, the latest first):");
        SpentWeeks x = Check.with(CALM);
        for (int k = 1; k <= 24; k++) {
            x.sentence(0, 1);
        }
        doc.due("24 are kept", x.count(5), 24);
        for (int k = 23; k >= 0; k--) {
            doc.due("undo", x.undo(), k);
            doc.due("the latest first", x.person(0, 0), k);
        }
        doc.due("all are undone", x.undo(), STATE);
        for (int k = 1; k <= 25; k++) {
            x.sentence(0, k);
        }
        doc.due("24 of 25 are kept", x.count(5), 24);
        for (int k = 23; k >= 0; k--) {
            doc.due("undo", x.undo(), k);
        }
        doc.due("the oldest is forgotten", x.undo(), STATE);
        doc.due("and stays done", x.person(0, 0), 1);
    }

    private interface Act {
        int of(SpentWeeks x);
    }

    private void undoes(String name, SpentWeeks x, Act act) {
        String ahead = Tale.now(x);
        int acts = x.count(5);
        act.of(x);
        doc.due(name + " is an ACT", x.count(5), acts + 1);
        String behind = Tale.now(x);
        doc.due(name + " is undone", x.undo(), acts);
        doc.same(name + ": all is as ahead", Tale.now(x), ahead);
        act.of(x);
        doc.same(name + ": done anew", Tale.now(x), behind);
    }

    private void eachActIsUndone() {
        doc.says("a SENTENCE (so many DAYS come to him as a LOT of this MONTH); a DEED; a SALE of DAYS for CASH (the seller"
            + " SPENDS them, they come to the other one as a LOT of this MONTH; CASH can be below 0); one PAYS what he OWES"
            + " with DAYS (he SPENDS as many, OWES as much less); one dies (his LOTS come to another one, one by one, from"
            + " the first on, as LOTS of this MONTH; his CASH, too; he has, OWES nothing then); a PARDON (he OWES nothing);"
            + " a MONTH.");
        SpentWeeks x = Check.with("y2,30;c9,10,50;s9,4,0;h9,30,99;t9,20,5;p9,15,40;c0,0,0;");
        undoes("a SENTENCE", x, y -> y.sentence(3, 12));
        undoes("a SENTENCE", x, y -> y.sentence(4, 15));
        undoes("a MONTH", x, y -> y.month(10));
        undoes("a DEED", x, y -> y.deed(4, 40));
        undoes("a SENTENCE", x, y -> y.sentence(4, 25));
        lots("of this MONTH", x, 4, 25, 1);
        undoes("a SALE", x, y -> y.sale(4, 5, 5, 999));
        lots("of this MONTH", x, 5, 5, 1);
        doc.due("CASH below 0", x.person(5, 2), -999);
        doc.due("the seller's CASH", x.person(4, 2), 1039);
        int owed = x.person(4, 1);
        undoes("one PAYS", x, y -> y.pays(4, 10));
        doc.due("OWES as much less", x.person(4, 1), owed - 10);
        lots("SPENDS as many", x, 4, 10, 1);
        undoes("one dies", x, y -> y.dies(5, 4));
        doc.due("his CASH, too", x.person(4, 2), 40);
        lots("his LOTS behind", x, 4, 10, 1, 5, 1);
        doc.due("he has nothing", x.person(5, 0) + x.person(5, 2) + x.person(5, 6), 0);
        undoes("a PARDON", x, y -> y.pardon(4));
        doc.due("he OWES nothing", x.person(4, 1), 0);
        undoes("a MONTH", x, y -> y.month(170));
        undoes("a MONTH in which LOTS lapse", x, y -> y.month(300));
        undoes("a MONTH in which LOTS lapse", x, y -> y.month(10));
        doc.due("all ACTS are kept", x.count(5), 12);
    }

    private void monthsAreDrawn() {
        doc.says("A MONTH by X: for each of the PEOPLE, in order, X becomes the rest of (X times 16807) by 2147483647; but of"
            + " a saint, if the rest of that by 10 is less than LEAN, he does a DEED of 1 and the rest of (X by 10, cut) by"
            + " WEIGHT.");
        // X by 10: 168070; by 170: 2857190; by 300: 5042100; by 7: 117649; by 4: 67228; by 1: 16807, 282475249
        doc.due("a rest of 0, a LEAN of 0", Check.with("y1,30;c0,0,0;").month(10), 0);
        doc.due("a rest of 0, a LEAN of 1", Check.with("y1,30;c1,0,0;").month(10), 1);
        doc.due("a rest of 7, a LEAN of 7", Check.with("y1,30;c7,0,0;").month(1), 0);
        doc.due("a rest of 7, a LEAN of 8", Check.with("y1,30;c8,0,0;").month(1), 1);
        doc.due("a rest of 8, a LEAN of 8", Check.with("y1,30;c8,0,0;").month(4), 0);
        doc.due("a rest of 8, a LEAN of 9", Check.with("y1,30;c9,0,0;").month(4), 1);
        doc.due("a rest of 9, a LEAN of 9", Check.with("y1,30;c9,0,0;").month(7), 0);
        doc.due("a saint of 9, a rest of 0", Check.with("y1,30;s9,0,0;").month(10), 0);
        String[] sorts = {"c", "h", "t"};
        for (String sort : sorts) {
            owes("16807 by 30: 7, and 1", "y1,30;" + sort + "9,0,0;", 10, 8);
            owes("285719 by 30: 29, and 1", "y1,30;" + sort + "9,0,0;", 170, 30);
            owes("504210 by 30: 0, and 1", "y1,30;" + sort + "9,0,0;", 300, 1);
            owes("by 1: 0, and 1", "y1,1;" + sort + "9,0,0;", 170, 1);
        }
        SpentWeeks x = Check.with("y1,30;s9,0,0;c9,0,0;c9,0,0;");
        doc.due("a saint is drawn for, too: rests 7, 9, 3", x.month(1), 1);
        doc.due("the third does it", x.person(2, 3), 1);
        doc.due("162265007 by 30, and 1", x.person(2, 1), 18);
        doc.due("nobody is there", Check.with("y1,30;").month(10), 0);
        doc.due("X by 999999 is beyond 2147483647: 1774597664", Check.with("y1,30;c4,0,0;").month(999999), 0);
        owes("177459766 by 30: 16, and 1", "y1,30;c5,0,0;", 999999, 17);
    }

    private void owes(String name, String text, int seed, int want) {
        SpentWeeks x = Check.with(text);
        doc.due(name, x.month(seed), 1);
        doc.due(name, x.person(0, 1), want);
    }

    private void lotsLapse() {
        doc.says("Then LOTS of each that came TERM MONTHS ago or more lapse (are gone), but of an heir; who was pardoned OWES"
            + " half (cut). Then it is the next MONTH.");
        for (int term = 1; term <= 24; term++) {
            SpentWeeks x = Check.with("y" + term + ",5;c0,10,50;s0,4,0;h0,30,99;t0,20,5;p0,15,40;");
            for (int one = 0; one < 5; one++) {
                x.sentence(one, 7);
            }
            for (int month = 0; month < term; month++) {
                doc.due("MONTH", x.count(2), month);
                x.month(1);
                doc.due("fewer MONTHS than TERM ago", x.count(3), 35);
            }
            x.month(1);
            doc.due("TERM MONTHS ago, but of an heir", x.count(3), 7);
            lots("the heir's", x, 2, 7, 0);
            lots("the saint's", x, 1);
        }
        SpentWeeks x = Check.with("y1,5;c0,1,1;");
        x.sentence(0, 3);
        x.month(1);
        x.sentence(0, 4);
        x.month(1);
        lots("the later one stays", x, 0, 4, 1);
        SpentWeeks half = Check.with("y1,5;p0,0,0;t0,0,0;");
        int[] halves = {9, 4, 2, 1, 0, 0};
        half.deed(0, 9);
        half.deed(1, 9);
        for (int month = 0; month < 6; month++) {
            doc.due("half of it, cut", half.person(0, 1), halves[month]);
            doc.due("a thief OWES all", half.person(1, 1), 9);
            half.month(1);
        }
        doc.terms();
        doc.says("All that is divided is cut towards 0");
        half.deed(0, 3);
        half.month(1);
        doc.due("half of 3", half.person(0, 1), 1);
        doc.due("half of 31, DEEDS come first", halfOfDeed(), 15);
    }

    /** A DEED of 1 by hand, and one of 30 by the draw of the same MONTH. */
    private static int halfOfDeed() {
        SpentWeeks x = Check.with("y1,30;p9,0,0;");
        x.deed(0, 1);
        x.month(170);
        return x.person(0, 1);
    }

    private void undoHasAnEnd() {
        doc.promise(9);
        doc.says("The latest ACT is undone: how many can be undone yet.");
        SpentWeeks x = Check.with(CALM);
        x.sentence(0, 1);
        x.sentence(0, 2);
        doc.due("one yet", x.undo(), 1);
        doc.due("none yet", x.undo(), 0);
        doc.says("STATE: none.");
        doc.due("none", x.undo(), STATE);
        doc.due("no COUNTY", new SpentWeeks().undo(), STATE);
        x.sentence(0, 1000);
        x.sale(0, 1, 1, 1);
        x.pays(0, 1);
        x.month(0);
        doc.due("what is refused is no ACT", x.undo(), STATE);
        x.image(0);
        x.ahead(0, 3, 1, 0);
        x.ask(0, 0);
        doc.due("what is foretold, or asked, is none", x.undo(), STATE);
        x.sentence(0, 9);
        Check.county(x, "y2");
        doc.due("a FAULT leaves them", x.undo(), 0);
        x.sentence(0, 9);
        Check.county(x, CALM);
        doc.due("behind a COUNTY that is read there is none", x.undo(), STATE);
        x.sentence(0, 9);
        x.image(1);
        x.restore(1);
        doc.due("behind an IMAGE, too", x.undo(), STATE);
        doc.due("it is as kept", x.person(0, 0), 9);
    }

    private void sentencesHaveBounds() {
        doc.promise(10);
        doc.says("A SENTENCE of n DAYS (1 to 999): UNSPENT.");
        SpentWeeks x = Check.with(CALM);
        doc.due("1", x.sentence(0, 1), 1);
        doc.due("999", x.sentence(0, 999), 1000);
        doc.due("of the last one", x.sentence(5, 7), 7);
        doc.says("BAD; FULL: UNSPENT above 9999.");
        doc.due("0", x.sentence(0, 0), BAD);
        doc.due("-1", x.sentence(0, -1), BAD);
        doc.due("1000", x.sentence(0, 1000), BAD);
        doc.due("person -1", x.sentence(-1, 1), BAD);
        doc.due("person 6", x.sentence(6, 1), BAD);
        doc.due("no COUNTY", new SpentWeeks().sentence(0, 1), BAD);
        doc.due("nobody in it", Check.with("y1,1;").sentence(0, 1), BAD);
        Check.give(x, 1, 9000);
        doc.due("9999", x.sentence(1, 999), 9999);
        doc.due("10000", x.sentence(1, 1), FULL);
        doc.due("far above", x.sentence(1, 999), FULL);
        doc.due("BAD ahead of FULL", x.sentence(1, 1000), BAD);
        x.deed(1, 1);
        doc.due("one more than there is room for", x.sentence(1, 2), FULL);
        doc.due("room for one", x.sentence(1, 1), 9999);
        doc.due("it is told of each by himself", x.sentence(0, 999), 1999);
    }

    private void deedsHaveBounds() {
        doc.promise(11);
        doc.says("A DEED of a weight (1 to 999): what he OWES then.");
        SpentWeeks x = Check.with("y1,1;s0,0,0;c0,0,0;");
        doc.due("1, of a saint", x.deed(0, 1), 1);
        doc.due("999, above WEIGHT", x.deed(0, 999), 1000);
        doc.due("of the last one", x.deed(1, 999), 999);
        doc.says("BAD.");
        doc.due("0", x.deed(0, 0), BAD);
        doc.due("-1", x.deed(0, -1), BAD);
        doc.due("1000", x.deed(0, 1000), BAD);
        doc.due("person -1", x.deed(-1, 1), BAD);
        doc.due("person 2", x.deed(2, 1), BAD);
        doc.due("no COUNTY", new SpentWeeks().deed(0, 1), BAD);
    }

    private void salesHaveBounds() {
        doc.promise(12);
        doc.says("A SALE of n DAYS (1 to 999) for CASH (0 to 999): UNSPENT of the buyer.");
        SpentWeeks x = Check.with(CALM);
        Check.give(x, 0, 2000);
        doc.due("1 for 0", x.sale(0, 1, 1, 0), 1);
        doc.due("999 for 999", x.sale(0, 1, 999, 999), 1000);
        doc.due("the seller's CASH", x.person(0, 2), 1049);
        doc.due("the buyer's CASH", x.person(1, 2), -999);
        doc.due("the last one buys", x.sale(0, 5, 1, 0), 1);
        doc.due("the last one sells", x.sale(5, 0, 1, 0), 1000);
        doc.says("BAD: alike, too; STATE: the seller has fewer; FULL: UNSPENT of the buyer above 9999.");
        doc.due("n 0", x.sale(0, 1, 0, 1), BAD);
        doc.due("n -1", x.sale(0, 1, -1, 1), BAD);
        doc.due("n 1000", x.sale(0, 1, 1000, 1), BAD);
        doc.due("CASH -1", x.sale(0, 1, 1, -1), BAD);
        doc.due("CASH 1000", x.sale(0, 1, 1, 1000), BAD);
        doc.due("seller -1", x.sale(-1, 1, 1, 1), BAD);
        doc.due("seller 6", x.sale(6, 1, 1, 1), BAD);
        doc.due("buyer -1", x.sale(1, -1, 1, 1), BAD);
        doc.due("buyer 6", x.sale(1, 6, 1, 1), BAD);
        doc.due("alike", x.sale(0, 0, 1, 1), BAD);
        doc.due("BAD ahead of STATE", x.sale(2, 2, 1, 1), BAD);
        x.sentence(2, 5);
        doc.due("one fewer than that", x.sale(2, 3, 6, 1), STATE);
        doc.due("as many", x.sale(2, 3, 5, 1), 5);
        doc.due("none", x.sale(2, 3, 1, 1), STATE);
        Check.give(x, 4, 9998);
        doc.due("10000", x.sale(0, 4, 2, 1), FULL);
        doc.due("9999", x.sale(0, 4, 1, 1), 9999);
        doc.due("one more", x.sale(0, 4, 1, 1), FULL);
        doc.due("STATE ahead of FULL", x.sale(2, 4, 1, 1), STATE);
        doc.due("the full one sells", x.sale(4, 0, 999, 0), 1998);
    }

    private void payingHasBounds() {
        doc.promise(13);
        doc.says("One PAYS n DAYS (1 to 999): what he OWES then.");
        SpentWeeks x = Check.with(CALM);
        Check.owe(x, 3, 2000);
        Check.give(x, 3, 2000);
        doc.due("1", x.pays(3, 1), 1999);
        doc.due("999", x.pays(3, 999), 1000);
        doc.due("DONE stays", x.person(3, 3), 3);
        doc.due("CASH stays", x.person(3, 2), 5);
        doc.due("from the last LOT on", x.lot(3, 0, 0), 999);
        x.deed(5, 9);
        x.sentence(5, 4);
        x.sentence(5, 5);
        doc.due("all that he has, all that he OWES", x.pays(5, 9), 0);
        doc.due("none are left", x.person(5, 6), 0);
        doc.says("BAD; STATE: he has fewer, or OWES less.");
        doc.due("0", x.pays(3, 0), BAD);
        doc.due("-1", x.pays(3, -1), BAD);
        doc.due("1000", x.pays(3, 1000), BAD);
        doc.due("person -1", x.pays(-1, 1), BAD);
        doc.due("person 6", x.pays(6, 1), BAD);
        doc.due("no COUNTY", new SpentWeeks().pays(0, 1), BAD);
        doc.due("BAD ahead of STATE", x.pays(0, 0), BAD);
        doc.due("has none, OWES none", x.pays(0, 1), STATE);
        x.deed(0, 8);
        doc.due("has none", x.pays(0, 1), STATE);
        x.sentence(0, 7);
        doc.due("has one fewer", x.pays(0, 8), STATE);
        doc.due("has as many", x.pays(0, 7), 1);
        x.sentence(0, 7);
        doc.due("OWES one less", x.pays(0, 2), STATE);
        doc.due("OWES as much", x.pays(0, 1), 0);
        doc.due("OWES none", x.pays(0, 1), STATE);
    }

    private void dyingHasBounds() {
        doc.promise(14);
        doc.says("One dies, another one has what he had: UNSPENT of that one.");
        SpentWeeks x = Check.with(CALM);
        doc.due("who has no LOTS", x.dies(5, 0), 0);
        doc.due("CASH of none", x.person(0, 2), 50);
        x.sentence(3, 1);
        x.sale(3, 5, 1, 0);
        x.sale(5, 3, 1, 0);
        x.sentence(0, 1);
        x.sale(0, 5, 1, 99);
        doc.due("who has CASH below 0", x.dies(5, 0), 1);
        doc.due("all of it", x.person(0, 2), 50);
        SpentWeeks y = Check.with(CALM);
        for (int k = 1; k <= 5; k++) {
            y.sentence(0, k);
            y.sentence(3, 10 * k);
        }
        y.deed(3, 20);
        y.month(1);
        doc.due("LOTS beyond six", y.dies(3, 0), 15 + 130);
        lots("the first of his stands, the others come to it", y, 0, 1, 0, 2, 0, 3, 0, 4, 0, 5, 0, 130, 1);
        lots("he has none", y, 3);
        doc.due("his DONE stays", y.person(3, 3), 1);
        doc.due("he is what he was", y.kind(3) + 10 * y.person(3, 5), 204);
        doc.due("he can be sentenced anew", y.sentence(3, 2), 2);
        doc.due("he OWES nothing then", owesOfTheDead(), 0);
        doc.says("BAD: alike, too; FULL: UNSPENT of that one above 9999.");
        doc.due("alike", y.dies(0, 0), BAD);
        doc.due("person -1", y.dies(-1, 0), BAD);
        doc.due("person 6", y.dies(6, 0), BAD);
        doc.due("heir -1", y.dies(0, -1), BAD);
        doc.due("heir 6", y.dies(0, 6), BAD);
        doc.due("no COUNTY", new SpentWeeks().dies(0, 1), BAD);
        SpentWeeks z = Check.with(CALM);
        Check.give(z, 0, 9000);
        Check.give(z, 1, 1000);
        doc.due("10000", z.dies(0, 1), FULL);
        doc.due("10000", z.dies(1, 0), FULL);
        z.deed(1, 1);
        doc.due("9999", z.dies(0, 1), 9999);
        doc.due("nothing comes to who has all", z.dies(0, 1), 9999);
        z.sentence(0, 1);
        doc.due("one DAY does not", z.dies(0, 1), FULL);
        doc.due("BAD ahead of FULL", z.dies(1, 1), BAD);
    }

    /** What the one who dies OWES, and what the other OWES more by it. */
    private static int owesOfTheDead() {
        SpentWeeks x = Check.with(CALM);
        x.deed(0, 30);
        x.dies(0, 1);
        return x.person(0, 1) + x.person(1, 1);
    }

    private void pardonsHaveBounds() {
        doc.promise(15);
        doc.says("A PARDON: what he OWED.");
        SpentWeeks x = Check.with(CALM);
        doc.due("nothing", x.pardon(0), 0);
        doc.due("an ACT all the same", x.count(5), 1);
        Check.owe(x, 5, 9999);
        doc.due("the most", x.pardon(5), 9999);
        doc.due("nothing then", x.person(5, 1), 0);
        x.sentence(5, 5);
        x.pardon(5);
        doc.due("DAYS stay", x.person(5, 0), 5);
        doc.due("KINDS stay", x.kind(5), 1);
        doc.says("BAD.");
        doc.due("person -1", x.pardon(-1), BAD);
        doc.due("person 6", x.pardon(6), BAD);
        doc.due("no COUNTY", new SpentWeeks().pardon(0), BAD);
    }

    private void monthsHaveBounds() {
        doc.promise(16);
        doc.says("A MONTH (SEED 1 to 999999): how many DEEDS were done.");
        doc.due("1", Check.with("y1,1;c8,0,0;").month(1), 1);
        doc.due("999999", Check.with("y1,1;c5,0,0;").month(999999), 1);
        doc.due("six", Check.with("y1,1;c9,0,0;c9,0,0;c9,0,0;c9,0,0;c9,0,0;c9,0,0;").month(10), 6);
        doc.says("BAD; STATE: no COUNTY (ahead of BAD); FULL: 999 are gone.");
        SpentWeeks x = Check.with("y1,1;c0,0,0;");
        doc.due("0", x.month(0), BAD);
        doc.due("-1", x.month(-1), BAD);
        doc.due("1000000", x.month(1000000), BAD);
        doc.due("no COUNTY", new SpentWeeks().month(1), STATE);
        doc.due("no COUNTY, and 0", new SpentWeeks().month(0), STATE);
        for (int k = 0; k < 998; k++) {
            x.month(1);
        }
        doc.due("998 are gone", x.month(1), 0);
        doc.due("MONTH", x.count(2), 999);
        doc.due("999 are gone", x.month(1), FULL);
        doc.due("BAD ahead of FULL", x.month(0), BAD);
        doc.due("MONTH stays", x.count(2), 999);
        doc.due("what is foretold goes on", x.ahead(0, 60, 1, 3), 0);
        x.undo();
        doc.due("one less is gone", x.month(1), 0);
        Check.county(x, "y1,1;");
        doc.due("MONTH 0 in another COUNTY", x.month(1), 0);
    }

    private void peopleAreAsked() {
        doc.promise(17);
        doc.says("Of one: 0 UNSPENT, 1 what he OWES, 2 CASH, 3 DONE, 4 LEAN, 5 WORTH, 6 how many LOTS.");
        SpentWeeks x = Check.with("y2,5;c3,10,50;p9,99,98;");
        x.deed(1, 7);
        x.deed(1, 4);
        x.sentence(1, 20);
        x.sentence(1, 30);
        x.sentence(1, 40);
        int[] last = {90, 11, 98, 2, 9, 99, 3};
        int[] first = {0, 0, 50, 0, 3, 10, 0};
        for (int what = 0; what < 7; what++) {
            doc.due("what " + what, x.person(1, what), last[what]);
            doc.due("what " + what, x.person(0, what), first[what]);
        }
        doc.says("BAD.");
        doc.due("what -1", x.person(0, -1), BAD);
        doc.due("what 7", x.person(0, 7), BAD);
        doc.due("person -1", x.person(-1, 0), BAD);
        doc.due("person 2", x.person(2, 0), BAD);
        doc.due("person 2, his LEAN", x.person(2, 4), BAD);
        doc.due("no COUNTY", new SpentWeeks().person(0, 0), BAD);
    }

    private void lotsAreAsked() {
        doc.promise(18);
        doc.says("Of a LOT of one: DAYS (what = 0), the MONTH (1).");
        SpentWeeks x = Check.with("y9,5;c3,10,50;p9,99,98;");
        for (int k = 1; k <= 6; k++) {
            x.month(4);
            x.sentence(0, k * 10);
        }
        for (int k = 0; k < 6; k++) {
            doc.due("DAYS of " + k, x.lot(0, k, 0), 10 * k + 10);
            doc.due("MONTH of " + k, x.lot(0, k, 1), k + 1);
        }
        doc.says("BAD.");
        doc.due("LOT 6", x.lot(0, 6, 0), BAD);
        doc.due("LOT -1", x.lot(0, -1, 0), BAD);
        doc.due("LOT 0 of who has none", x.lot(1, 0, 0), BAD);
        doc.due("what -1", x.lot(0, 0, -1), BAD);
        doc.due("what 2", x.lot(0, 0, 2), BAD);
        doc.due("person -1", x.lot(-1, 0, 0), BAD);
        doc.due("person 2", x.lot(2, 0, 0), BAD);
        doc.due("no COUNTY", new SpentWeeks().lot(0, 0, 0), BAD);
        x.deed(0, 10);
        doc.due("LOT 5 is gone", x.lot(0, 5, 0), BAD);
        doc.due("the first is the next one", x.lot(0, 0, 0), 20);
    }
}

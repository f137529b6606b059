/** Where the document can be read in two ways: the sentence that decides it, and what it decides. */
final class Readings {
    private static final int NONE = SpentWeeks.NONE, BAD = SpentWeeks.BAD;

    private final Doc doc;

    Readings(Doc doc) {
        this.doc = doc;
    }

    void hold() {
        doc.terms();
        aSentenceToCover();
        howManySets();
        placesOfAnOrder();
        placesOfASet();
        imagesStayWhenACountyIsRead();
        owingMoreThanNow();
        allSalesMustBeAskedFor();
        behindTheMonths();
        longerRunsOfFigures();
        theDeadHaveDoneWhatTheyDid();
    }

    /** FULL is told of sentence(), the call; of COVER only how many DAYS there may be. */
    private void aSentenceToCover() {
        doc.says("the fewest DAYS (0 to 999; 0: none) of a SENTENCE now by which he OWES behind them no more than now; NONE.");
        SpentWeeks x = Check.with("y24,5;c0,0,0;");
        Check.give(x, 0, 9999);
        x.row(0, 2, 12);
        for (int k = 0; k < 12; k++) {
            x.set(0, k, 900);
        }
        doc.due("a SENTENCE that sentence() would find FULL", x.cover(0, 0, 0, 12), 801);
        doc.due("sentence() does", x.sentence(0, 801), SpentWeeks.FULL);
        doc.due("11 of them are covered", x.cover(0, 0, 0, 11), 0);
        x.set(0, 11, 999);
        x.set(0, 10, 999);
        doc.due("999 of them", x.cover(0, 0, 0, 12), 999);
        x.set(0, 9, 901);
        doc.due("1000 of them", x.cover(0, 0, 0, 12), NONE);
    }

    /** NONE stands behind the least set, as behind the fewest DEEDS of FALSE: of sets that are not there, there are 0. */
    private void howManySets() {
        doc.says("of all sets of its places those whose weights are n together: how many; the least set; NONE.");
        SpentWeeks x = new SpentWeeks();
        Check.row(x, 0, 1, 4, 6);
        doc.due("how many are 5", x.satFor(0, 0, 2, 5, 0), 0);
        doc.due("the least that is 5", x.satFor(0, 0, 2, 5, 1), NONE);
        doc.due("how many are 10", x.satFor(0, 0, 2, 10, 0), 1);
    }

    private void placesOfAnOrder() {
        doc.promise(23);
        doc.says("n weights (1 to 6) of a ROW from i on: what he OWES (k = -1), the place (0 on) of the k-th.");
        SpentWeeks x = Check.with("y1,5;p0,0,0;");
        x.row(0, 0, 40);
        x.set(0, 37, 1);
        x.set(0, 38, 30);
        x.set(0, 39, 8);
        int[] places = {1, 2, 0};
        doc.due("30, 15 and 8, 11 and 1, 6", x.bestOrder(0, 0, 37, 3, -1), 6);
        for (int k = 0; k < 3; k++) {
            doc.due("the first of the three is 0", x.bestOrder(0, 0, 37, 3, k), places[k]);
        }
        doc.terms();
    }

    /** A set of places beyond 31 could be no int. */
    private void placesOfASet() {
        doc.says("Sets are bits.");
        SpentWeeks x = new SpentWeeks();
        x.row(0, 0, 40);
        x.set(0, 38, 3);
        x.set(0, 39, 4);
        doc.due("the last of two", x.satFor(0, 38, 2, 4, 1), 2);
    }

    private void imagesStayWhenACountyIsRead() {
        doc.says("A COUNTY that is read stands in place of the one before (none at first): MONTH 0; nobody has LOTS, nobody OWES;"
            + " no ACT can be undone.");
        SpentWeeks x = Check.with("y5,5;c0,1,2;t0,3,4;");
        x.sentence(0, 7);
        x.month(1);
        x.image(1);
        String kept = Tale.now(x);
        Check.county(x, "y1,1;h9,9,9;");
        doc.due("nothing is told of IMAGES", x.restore(1), 1);
        doc.same("PEOPLE, MONTH and law are back", Tale.now(x), kept.replaceFirst("^((?:\\S+ ){5})\\S+ ", "$10 "));
    }

    /** Than now: of what is OWED ahead with LOTS it could never be below 0. */
    private void owingMoreThanNow() {
        doc.says("by how many DAYS all together OWE more then (can be below 0).");
        SpentWeeks x = Check.with("y5,5;p0,1,2;");
        x.deed(0, 10);
        x.sentence(0, 50);
        doc.due("5 then, 10 now", x.triedFirst(1, 1, 1), -5);
    }

    private void allSalesMustBeAskedFor() {
        doc.promise(26);
        doc.says("then BAD: ITEMS by which no SALE can be asked for (as sale() tells).");
        SpentWeeks x = Check.with("y5,5;c0,1,2;t0,3,4;");
        Check.row(x, 0, 1, 0, 1, 5, 5, 0, 0, 5, 5);
        doc.due("the first cannot be, the second cannot be asked for", x.ring(0, 0, 2, 0), BAD);
        doc.due("the first by itself", x.ring(0, 0, 1, 0), 0);
        doc.terms();
    }

    /** The last MONTH, too, has its end: he OWES half behind it. */
    private void behindTheMonths() {
        doc.says("one of them done by one in each MONTH from now on, in order (MONTHS without draws: DEEDS first, then LOTS"
            + " lapse, who was pardoned OWES half)");
        SpentWeeks x = Check.with("y5,5;p9,1,2;");
        Check.row(x, 0, 1, 9);
        doc.due("half of 9", x.bestOrder(0, 0, 0, 1, -1), 4);
        doc.due("half of 1 is no more than now", x.cover(0, 0, 0, 1), 8);
    }

    private void longerRunsOfFigures() {
        doc.says("a run of three figures, at its first;");
        SpentWeeks x = new SpentWeeks();
        doc.due("of three", Check.county(x, "y012,1;"), -1000101);
        doc.due("of four", Check.county(x, "y0012,1;"), -1000101);
        doc.due("1", x.fault(), 1);
    }

    private void theDeadHaveDoneWhatTheyDid() {
        doc.says("he has, OWES nothing then");
        SpentWeeks x = Check.with("y5,5;c9,1,2;t0,3,4;");
        x.deed(0, 5);
        x.dies(0, 1);
        doc.due("DAYS, CASH, what he OWES", x.person(0, 0) + x.person(0, 1) + x.person(0, 2), 0);
        doc.due("DONE, LEAN, WORTH", x.person(0, 3) + 10 * x.person(0, 4) + 100 * x.person(0, 5), 191);
    }
}

/** What is foretold, at its bounds: promises 19 to 30. */
final class ForetoldBounds {
    private static final int NONE = SpentWeeks.NONE, BAD = SpentWeeks.BAD, STATE = SpentWeeks.STATE;
    private static final int NULL = -1000011, PLACE = -1000012;
    private static final String CALM = "y2,5;c0,10,50;s0,4,0;h0,30,99;t0,20,5;p0,15,40;c0,0,0;";

    private final Doc doc;

    ForetoldBounds(Doc doc) {
        this.doc = doc;
    }

    void hold() {
        nothingChanges();
        monthsAhead();
        laterMonthsAhead();
        daysLapse();
        trialsFirst();
        aheadHasBounds();
        lapsedHasBounds();
        triedFirstHasBounds();
        deedsAreCovered();
        coverHasBounds();
        deedsAreOrdered();
        bestOrderHasBounds();
        pricesAreMet();
        marketsRest();
        marketHasBounds();
        imagesAreKept();
        imagesAreRestored();
    }

    private void nothingChanges() {
        doc.terms();
        doc.says("FORETOLD (nothing changes).");
        SpentWeeks x = Refusals.full();
        x.ahead(0, 60, 5, 1);
        x.lapsed(0, 60);
        x.triedFirst(60, 5, 1);
        x.cover(3, 0, 0, 5);
        x.bestOrder(4, 0, 0, 5, 2);
        x.market(20, 1);
        x.atRest(2);
        x.ring(5, 0, 2, 0);
        x.ring(5, 0, 2, 1);
        x.wrong(2, 0, -1);
        x.wrong(2, 0, 4);
        x.satFor(0, 0, 5, 9, 1);
        x.satFor(0, 0, 5, 9, 0);
        doc.same("all is as ahead", Tale.whole(x), Tale.whole(Refusals.full()));
    }

    private void monthsAhead() {
        doc.says("AHEAD by n MONTHS (0 to 60) by a SEED (X at first; it goes on from MONTH to MONTH): UNSPENT, OWES, CASH,"
            + " DONE of one.");
        // X by 1: 16807, 282475249 (a rest of 9), 1622650073 (3), 984943658 (8), 1144108930 (0)
        SpentWeeks x = Check.with("y1,30;c8,0,3;");
        doc.due("rest 7", x.ahead(0, 1, 1, 3), 1);
        doc.due("rest 9", x.ahead(0, 2, 1, 3), 1);
        doc.due("rest 3", x.ahead(0, 3, 1, 3), 2);
        doc.due("rest 8", x.ahead(0, 4, 1, 3), 2);
        doc.due("rest 0", x.ahead(0, 5, 1, 3), 3);
        doc.due("1, 18, 14", x.ahead(0, 5, 1, 1), 33);
        x.sentence(0, 10);
        doc.due("none: as it is", x.ahead(0, 0, 1, 0), 10);
        doc.due("in 1: 9 are left", x.ahead(0, 1, 1, 0), 9);
        doc.due("in 2: they lapse", x.ahead(0, 2, 1, 0), 0);
        doc.due("CASH stays", x.ahead(0, 60, 1, 2), 3);
        SpentWeeks step = Check.with("y3,30;c8,0,3;p6,9,9;s9,0,0;h5,1,1;");
        for (int one = 0; one < 4; one++) {
            step.sentence(one, 300);
            step.deed(one, 7);
        }
        int[] then = new int[4];
        for (int what = 0; what < 4; what++) {
            then[what] = step.ahead(1, 1, 77, what);
        }
        step.month(77);
        for (int what = 0; what < 4; what++) {
            doc.due("as a MONTH by that SEED does it", step.person(1, what), then[what]);
        }
    }

    /** LOTS of several MONTHS, looked at from a later one. */
    private void laterMonthsAhead() {
        SpentWeeks x = Check.with("y3,30;c0,0,3;p0,0,0;h0,0,0;");
        for (int month = 0; month < 3; month++) {
            for (int one = 0; one < 3; one++) {
                x.sentence(one, 1 << month);
            }
            x.month(1);
        }
        x.image(0);
        int[] left = {7, 6, 4, 0};
        for (int n = 0; n < 4; n++) {
            doc.due("in " + n, x.ahead(0, n, 1, 0), left[n]);
            doc.due("in " + n, x.ahead(1, n, 1, 0), left[n]);
            doc.due("of an heir, in " + n, x.ahead(2, n, 1, 0), 7);
        }
        for (int n = 0; n < 4; n++) {
            doc.due("as MONTHS do it", x.person(0, 0), left[n]);
            x.month(1);
        }
        for (int n = 3; n >= 0; n--) {
            x.undo();
            doc.due("as they are undone", x.ahead(0, 1, 1, 0), left[Math.min(3, n + 1)]);
        }
        x.month(1);
        x.month(1);
        x.restore(0);
        doc.due("as an IMAGE kept it", x.ahead(0, 2, 1, 0), 4);
    }

    private void daysLapse() {
        doc.says("LAPSED: DAYS of one that lapse in the next n MONTHS (0 to 60), if nobody does anything.");
        SpentWeeks x = Check.with("y3,30;c9,0,3;h9,0,0;p9,0,0;");
        for (int one = 0; one < 3; one++) {
            Check.give(x, one, 400);
        }
        x.month(10);
        int first = x.person(0, 0);
        x.sentence(0, 50);
        int[] wants = {0, 0, 0, first, first + 50, first + 50};
        for (int n = 0; n < 6; n++) {
            doc.due("in " + n, x.lapsed(0, n), wants[n]);
        }
        doc.due("in 60", x.lapsed(0, 60), first + 50);
        doc.due("of an heir, in 60", x.lapsed(1, 60), 0);
        doc.due("of one who was pardoned", x.lapsed(2, 3), x.person(2, 0));
        doc.due("of who has none", Check.with(CALM).lapsed(0, 60), 0);
        SpentWeeks last = Check.with("y24,30;c0,0,3;");
        Check.give(last, 0, 9999);
        doc.due("in 24 of TERM 24", last.lapsed(0, 24), 0);
        doc.due("in 25", last.lapsed(0, 25), 9999);
        for (int month = 0; month < 24; month++) {
            last.month(1);
        }
        doc.due("now: in none", last.lapsed(0, 0), 0);
        doc.due("now: in 1", last.lapsed(0, 1), 9999);
    }

    private void trialsFirst() {
        doc.says("TRIED FIRST in so many MONTHS by a SEED: as AHEAD, but nobody has LOTS from now on: how many DEEDS there are"
            + " of all; by how many DAYS all together OWE more then (can be below 0).");
        SpentWeeks x = Check.with("y24,30;c8,0,3;s9,0,0;");
        Check.give(x, 0, 9000);
        Check.give(x, 1, 900);
        // X by 10: 168070 (8, and 1), then the saint's
        doc.due("DEEDS", x.triedFirst(1, 10, 0), 1);
        doc.due("OWED, for all the LOTS", x.triedFirst(1, 10, 1), 8);
        doc.due("as LOTS would spare it", x.ahead(0, 1, 10, 1), 0);
        x.deed(0, 1);
        Check.owe(x, 1, 1000);
        doc.due("more than now", x.triedFirst(1, 10, 1), 8);
        SpentWeeks less = Check.with("y24,30;p0,0,0;p0,0,0;");
        Check.owe(less, 0, 9999);
        Check.owe(less, 1, 3);
        doc.due("below 0", less.triedFirst(1, 10, 1), 4999 + 1 - 9999 - 3);
        doc.due("no DEEDS", less.triedFirst(60, 10, 0), 0);
        doc.due("all of it", less.triedFirst(60, 10, 1), -10002);
        SpentWeeks most = Check.with("y24,30;c9,0,0;");
        Check.owe(most, 0, 9995);
        doc.due("9999 at most", most.triedFirst(60, 170, 1), 4);
    }

    private void aheadHasBounds() {
        doc.promise(19);
        doc.says("AHEAD (SEED 1 to 999999): UNSPENT (what = 0), OWES (1), CASH (2), DONE (3).");
        SpentWeeks x = Check.with("y2,30;c5,10,50;c0,0,7;");
        x.sentence(0, 5);
        int[] now = {5, 0, 50, 0};
        // X by 999999: 1774597664, a rest of 4, a DEED of 17
        int[] then = {0, 12, 50, 1};
        for (int what = 0; what < 4; what++) {
            doc.due("now, " + what, x.ahead(0, 0, 1, what), now[what]);
            doc.due("by 999999, " + what, x.ahead(0, 1, 999999, what), then[what]);
        }
        doc.due("the last one", x.ahead(1, 60, 1, 2), 7);
        doc.says("BAD.");
        doc.due("n -1", x.ahead(0, -1, 1, 0), BAD);
        doc.due("n 61", x.ahead(0, 61, 1, 0), BAD);
        doc.due("n 60", x.ahead(0, 60, 1, 0), 0);
        doc.due("SEED 0", x.ahead(0, 0, 0, 0), BAD);
        doc.due("SEED -1", x.ahead(0, 0, -1, 0), BAD);
        doc.due("SEED 1000000", x.ahead(0, 0, 1000000, 0), BAD);
        doc.due("what -1", x.ahead(0, 0, 1, -1), BAD);
        doc.due("what 4", x.ahead(0, 0, 1, 4), BAD);
        doc.due("person -1", x.ahead(-1, 0, 1, 0), BAD);
        doc.due("person 2", x.ahead(2, 0, 1, 0), BAD);
        doc.due("no COUNTY", new SpentWeeks().ahead(0, 0, 1, 0), BAD);
    }

    private void lapsedHasBounds() {
        doc.promise(20);
        doc.says("LAPSED. BAD.");
        SpentWeeks x = Check.with("y2,30;c5,10,50;c0,0,7;");
        x.sentence(1, 5);
        doc.due("n 0", x.lapsed(1, 0), 0);
        doc.due("n 60", x.lapsed(1, 60), 5);
        doc.due("n -1", x.lapsed(1, -1), BAD);
        doc.due("n 61", x.lapsed(1, 61), BAD);
        doc.due("person -1", x.lapsed(-1, 1), BAD);
        doc.due("person 2", x.lapsed(2, 1), BAD);
        doc.due("no COUNTY", new SpentWeeks().lapsed(0, 0), BAD);
    }

    private void triedFirstHasBounds() {
        doc.promise(21);
        doc.says("TRIED FIRST: DEEDS (what = 0), DAYS (1).");
        SpentWeeks x = Check.with("y2,30;c5,10,50;");
        doc.due("DEEDS", x.triedFirst(1, 999999, 0), 1);
        doc.due("DAYS", x.triedFirst(1, 999999, 1), 17);
        doc.due("in none", x.triedFirst(0, 1, 0), 0);
        doc.due("in none", x.triedFirst(0, 1, 1), 0);
        doc.says("BAD; STATE: no COUNTY (ahead of BAD).");
        doc.due("n -1", x.triedFirst(-1, 1, 0), BAD);
        doc.due("n 61", x.triedFirst(61, 1, 0), BAD);
        doc.due("n 60", x.triedFirst(60, 1, 0) > 0 ? 1 : 0, 1);
        doc.due("SEED 0", x.triedFirst(1, 0, 0), BAD);
        doc.due("SEED -1", x.triedFirst(1, -1, 0), BAD);
        doc.due("SEED 1000000", x.triedFirst(1, 1000000, 0), BAD);
        doc.due("what -1", x.triedFirst(1, 1, -1), BAD);
        doc.due("what 2", x.triedFirst(1, 1, 2), BAD);
        doc.due("no COUNTY", new SpentWeeks().triedFirst(0, 1, 0), STATE);
        doc.due("no COUNTY, and 61", new SpentWeeks().triedFirst(61, 0, 2), STATE);
        doc.due("nobody", Check.with("y1,1;").triedFirst(60, 1, 1), 0);
    }

    private void deedsAreCovered() {
        doc.terms();
        doc.says("COVER: a row tells weights of DEEDS, one of them done by one in each MONTH from now on, in order (MONTHS"
            + " without draws: DEEDS first, then LOTS lapse, who was pardoned OWES half): the fewest DAYS (0 to 999; 0: none)"
            + " of a SENTENCE now by which he OWES behind them no more than now; NONE.");
        SpentWeeks x = Check.with("y2,30;c9,0,0;h9,0,0;t9,0,0;p9,0,0;s9,0,0;");
        Check.row(x, 0, 1, 1, 998, 999, 5, 5, 5, 5);
        doc.due("1", x.cover(0, 0, 0, 1), 1);
        doc.due("999", x.cover(0, 0, 0, 2), 999);
        doc.due("more than 999", x.cover(0, 0, 0, 3), NONE);
        doc.due("999 by one", x.cover(0, 0, 2, 1), 999);
        doc.due("in this MONTH and the TERM", x.cover(0, 0, 3, 3), 15);
        doc.due("a MONTH more: they lapsed", x.cover(0, 0, 3, 4), NONE);
        doc.due("a heir's do not", x.cover(1, 0, 3, 4), 20);
        doc.due("a thief's do", x.cover(2, 0, 3, 4), NONE);
        doc.due("a saint's do, too", x.cover(4, 0, 3, 4), NONE);
        doc.due("DEEDS are told, draws are not made", x.cover(0, 0, 3, 1), 5);
        // 5 in each MONTH, halved: 3 sat of the last makes 2, by half 1, 0 by ..
        doc.due("OWING 1 is half of it, 0", x.cover(3, 0, 0, 1), 0);
        doc.due("5 less 4 is 1, by half 0", x.cover(3, 0, 3, 1), 4);
        x.sentence(0, 5);
        doc.due("0: none", x.cover(0, 0, 3, 1), 0);
        x.sentence(0, 5);
        doc.due("0: none, of two", x.cover(0, 0, 3, 2), 0);
        doc.due("5 are missing", x.cover(0, 0, 3, 3), 5);
        x.deed(1, 7);
        doc.due("no more than now", x.cover(1, 0, 3, 1), 5);
        x.deed(3, 40);
        doc.due("40, and 5: 22, and 5: 13", x.cover(3, 0, 3, 2), 0);
        Check.owe(x, 2, 9999);
        doc.due("9999 is no more than 9999", x.cover(2, 0, 1, 2), 0);
        doc.due("a SENTENCE of now is the last of six", coverOfSix(), NONE);
        doc.due("LOTS of two MONTHS, from a later one", coverLater(), 4);
    }

    /** Of 2 and 3 DAYS, the first lapse with this MONTH, the others with the next one: 4 are missing in the third. */
    private static int coverLater() {
        SpentWeeks x = Check.with("y2,30;c0,0,0;");
        x.sentence(0, 2);
        x.month(1);
        x.sentence(0, 3);
        x.month(1);
        Check.row(x, 0, 0, 1, 3, 4);
        return x.cover(0, 0, 0, 3);
    }

    /** Six LOTS of the MONTH before, of which the new DAYS come to the last: they lapse with it. */
    private static int coverOfSix() {
        SpentWeeks x = Check.with("y1,30;t0,0,0;");
        for (int k = 0; k < 6; k++) {
            x.sentence(0, 1);
        }
        x.month(1);
        Check.row(x, 0, 0, 6, 1);
        return x.cover(0, 0, 0, 2);
    }

    private void coverHasBounds() {
        doc.promise(22);
        doc.says("COVER, n weights (1 to 12) of a ROW from i on; NONE.");
        SpentWeeks x = Check.with("y24,30;c0,0,0;h9,0,0;");
        x.row(0, 2, 40);
        for (int k = 0; k < 40; k++) {
            x.set(0, k, k + 1);
        }
        doc.due("one, from 0 on", x.cover(1, 0, 0, 1), 1);
        doc.due("twelve, from 0 on", x.cover(1, 0, 0, 12), 78);
        doc.due("twelve, up to the end", x.cover(1, 0, 28, 12), 414);
        doc.due("the last", x.cover(1, 0, 39, 1), 40);
        x.set(0, 39, 999);
        doc.due("NONE", x.cover(1, 0, 38, 2), NONE);
        doc.due("NONE is no FINDING", x.status(), 0);
        doc.says("BAD: PERSON, ROW, n; NULL; PLACE; then BAD: an ITEM not 1 to 999.");
        doc.due("n 0", x.cover(0, 0, 0, 0), BAD);
        doc.due("n -1", x.cover(0, 0, 0, -1), BAD);
        doc.due("n 13", x.cover(0, 0, 0, 13), BAD);
        doc.due("person -1", x.cover(-1, 0, 0, 1), BAD);
        doc.due("person 2", x.cover(2, 0, 0, 1), BAD);
        doc.due("ROW -1", x.cover(0, -1, 0, 1), BAD);
        doc.due("ROW 8", x.cover(0, 8, 0, 1), BAD);
        doc.due("BAD ahead of NULL", x.cover(2, 7, 0, 1), BAD);
        doc.due("NULL ahead of PLACE", x.cover(0, 7, -1, 1), NULL);
        doc.due("i -1", x.cover(0, 0, -1, 1), PLACE);
        doc.due("i 40", x.cover(0, 0, 40, 1), PLACE);
        doc.due("beyond the end", x.cover(0, 0, 29, 12), PLACE);
        doc.due("an int's end", x.cover(0, 0, Integer.MAX_VALUE, 1), PLACE);
        x.set(0, 0, 0);
        doc.due("PLACE ahead of an ITEM", x.cover(0, 0, -1, 2), PLACE);
        items(x, (row, i) -> x.cover(0, row, i, 2));
    }

    /** Two ITEMS from i on, of which one is not 1 to 999. */
    private interface Told {
        int by(int row, int i);
    }

    private void items(SpentWeeks x, Told call) {
        Check.row(x, 6, 2, 1, 999, 0, 1, 1000, 1, -1);
        doc.due("1 and 999", call.by(6, 0) == BAD ? 1 : 0, 0);
        doc.due("999 and 0", call.by(6, 1), BAD);
        doc.due("0 and 1", call.by(6, 2), BAD);
        doc.due("1 and 1000", call.by(6, 3), BAD);
        doc.due("1000 and 1", call.by(6, 4), BAD);
        doc.due("1 and -1", call.by(6, 5), BAD);
    }

    private void order(String name, SpentWeeks x, int one, int i, int owes, int... places) {
        int n = places.length;
        doc.due(name + ": OWES", x.bestOrder(one, 0, i, n, -1), owes);
        for (int k = 0; k < n; k++) {
            doc.due(name + ": place of the " + k + "-th", x.bestOrder(one, 0, i, n, k), places[k]);
        }
    }

    private void deedsAreOrdered() {
        doc.terms();
        doc.says("BEST ORDER: of all orders of the same (6 at most) the one by which he OWES least behind them, of several the"
            + " first (by places in the row): what he OWES then; the place of the k-th.");
        SpentWeeks x = Check.with("y1,30;c9,0,0;p9,0,0;");
        Check.row(x, 0, 1, 2, 7, 7, 1, 7, 2, 3, 3);
        order("all alike: the first", x, 0, 0, 26, 0, 1, 2, 3, 4, 5);
        order("two alike: the first", x, 0, 6, 6, 0, 1);
        order("one", x, 0, 3, 1, 0);
        // 7: 3; and 2: 2; and 1: 1. By another order it is 2
        order("half is OWED behind each MONTH", x, 1, 3, 1, 1, 2, 0);
        Check.row(x, 0, 1, 1, 2, 7, 2);
        x.sentence(0, 8);
        // 8 DAYS lapse with the next MONTH: DEEDS of 8 and more in the two of them SPEND all
        order("of several the first", x, 0, 0, 4, 0, 2, 1, 3);
        SpentWeeks last = Check.with("y1,30;p0,0,0;");
        Check.row(last, 0, 2, 1, 10, 100, 300, 600, 999);
        // 499, 549, 424, 262, 136, 68
        order("the last order of all", last, 0, 0, 68, 5, 4, 3, 2, 1, 0);
        SpentWeeks most = Check.with("y1,30;c0,0,0;");
        Check.owe(most, 0, 9999);
        Check.row(most, 0, 2, 5, 4, 3);
        order("no more than 9999", most, 0, 0, 9999, 0, 1, 2);
    }

    private void bestOrderHasBounds() {
        doc.promise(23);
        doc.says("BEST ORDER, n weights (1 to 6) of a ROW from i on: what he OWES (k = -1), the place (0 on) of the k-th.");
        SpentWeeks x = Check.with("y1,30;c0,0,0;h9,0,0;");
        x.row(0, 2, 40);
        for (int k = 0; k < 40; k++) {
            x.set(0, k, k + 1);
        }
        doc.due("one", x.bestOrder(1, 0, 39, 1, -1), 40);
        doc.due("its place", x.bestOrder(1, 0, 39, 1, 0), 0);
        doc.due("six", x.bestOrder(1, 0, 34, 6, -1), 225);
        for (int k = 0; k < 6; k++) {
            doc.due("its place", x.bestOrder(1, 0, 34, 6, k), k);
        }
        doc.says("BAD: PERSON, ROW, n, k (-1 to n less 1); NULL; PLACE; then BAD: an ITEM not 1 to 999.");
        doc.due("n 0", x.bestOrder(0, 0, 0, 0, -1), BAD);
        doc.due("n -1", x.bestOrder(0, 0, 0, -1, -1), BAD);
        doc.due("n 7", x.bestOrder(0, 0, 0, 7, -1), BAD);
        doc.due("k -2", x.bestOrder(0, 0, 0, 6, -2), BAD);
        doc.due("k 5 of 6", x.bestOrder(0, 0, 0, 6, 5), 5);
        doc.due("k 6 of 6", x.bestOrder(0, 0, 0, 6, 6), BAD);
        doc.due("k 1 of 1", x.bestOrder(0, 0, 0, 1, 1), BAD);
        doc.due("person -1", x.bestOrder(-1, 0, 0, 1, 0), BAD);
        doc.due("person 2", x.bestOrder(2, 0, 0, 1, 0), BAD);
        doc.due("ROW -1", x.bestOrder(0, -1, 0, 1, 0), BAD);
        doc.due("ROW 8", x.bestOrder(0, 8, 0, 1, 0), BAD);
        doc.due("BAD ahead of NULL", x.bestOrder(0, 7, 0, 1, 1), BAD);
        doc.due("NULL ahead of PLACE", x.bestOrder(0, 7, -1, 1, 0), NULL);
        doc.due("i -1", x.bestOrder(0, 0, -1, 1, 0), PLACE);
        doc.due("i 40", x.bestOrder(0, 0, 40, 1, 0), PLACE);
        doc.due("beyond the end", x.bestOrder(0, 0, 35, 6, 0), PLACE);
        doc.due("up to it", x.bestOrder(0, 0, 34, 6, 0), 0);
        items(x, (row, i) -> x.bestOrder(0, row, i, 2, 0));
        items(x, (row, i) -> x.bestOrder(0, row, i, 2, -1));
    }

    private void pricesAreMet() {
        doc.terms();
        doc.says("MARKET: at a PRICE of p (0 to 99): SUPPLY: UNSPENT of all whose WORTH is p or less and who OWE nothing;"
            + " DEMAND: what all OWE whose WORTH is p or more.");
        SpentWeeks x = Check.with("y9,5;c0,0,0;c0,50,0;c0,99,0;c0,0,0;c0,50,0;c0,99,0;");
        int[] days = {1, 10, 20};
        int[] owed = {100, 200, 400};
        for (int one = 0; one < 3; one++) {
            x.sentence(one, days[one]);
            x.deed(one + 3, owed[one]);
        }
        int[] prices = {0, 1, 49, 50, 51, 98, 99};
        int[] supply = {1, 1, 1, 11, 11, 11, 31};
        int[] demand = {700, 600, 600, 600, 400, 400, 400};
        for (int k = 0; k < prices.length; k++) {
            doc.due("SUPPLY at " + prices[k], x.market(prices[k], 0), supply[k]);
            doc.due("DEMAND at " + prices[k], x.market(prices[k], 1), demand[k]);
        }
        x.sentence(3, 40);
        doc.due("who OWES does not sell", x.market(0, 0), 1);
        doc.due("and pays for all that he OWES", x.market(0, 1), 700);
        x.pays(3, 40);
        x.deed(0, 2);
        doc.due("who OWES one is no seller", x.market(0, 0), 0);
        doc.due("but a buyer", x.market(0, 1), 661);
    }

    private void marketsRest() {
        doc.says("PRICE AT REST: the least p at which DEMAND is SUPPLY or less; NONE; who would sell, who would buy at it (bits;"
            + " of those that count with more than 0).");
        SpentWeeks x = Check.with("y9,5;c0,0,0;c0,99,0;c0,50,0;c0,0,0;c0,99,0;c0,7,0;");
        rests("nobody OWES: at 0", x, 0, 0, 0);
        x.sentence(0, 5);
        rests("who has more than 0", x, 0, 1, 0);
        x.deed(5, 6);
        rests("more than there are, up to 7", x, 8, 1, 0);
        x.sentence(3, 1);
        rests("as many as there are", x, 0, 1 | 8, 32);
        x.deed(2, 1);
        rests("one more again", x, 8, 1 | 8, 4);
        x.deed(1, 999);
        rests("never", x, NONE, NONE, NONE);
        x.sentence(4, 992);
        rests("never, by one", x, NONE, NONE, NONE);
        x.sentence(4, 1);
        rests("at the top", x, 99, 1 | 8 | 16, 2);
        SpentWeeks first = Check.with("y9,5;c0,5,0;c0,5,0;");
        first.deed(0, 3);
        first.sentence(1, 3);
        rests("the first buys", first, 5, 2, 1);
    }

    private void rests(String name, SpentWeeks x, int price, int sellers, int buyers) {
        doc.due(name + ": p", x.atRest(0), price);
        doc.due(name + ": who sells", x.atRest(1), sellers);
        doc.due(name + ": who buys", x.atRest(2), buyers);
    }

    private void marketHasBounds() {
        doc.promise(24);
        doc.says("MARKET: SUPPLY (what = 0), DEMAND (1).");
        SpentWeeks x = Check.with("y9,5;c0,0,0;c0,99,0;");
        x.sentence(0, 5);
        x.deed(1, 6);
        doc.due("SUPPLY at 0", x.market(0, 0), 5);
        doc.due("DEMAND at 99", x.market(99, 1), 6);
        doc.says("BAD; STATE: no COUNTY (ahead of BAD).");
        doc.due("p -1", x.market(-1, 0), BAD);
        doc.due("p 100", x.market(100, 1), BAD);
        doc.due("what -1", x.market(0, -1), BAD);
        doc.due("what 2", x.market(0, 2), BAD);
        doc.due("no COUNTY", new SpentWeeks().market(0, 0), STATE);
        doc.due("no COUNTY, and 100", new SpentWeeks().market(100, 2), STATE);
        doc.due("nobody", Check.with("y1,1;").market(0, 0), 0);
        doc.promise(25);
        doc.says("PRICE AT REST: p (what = 0), who sells (1), who buys (2); NONE.");
        rests("above 0", Check.with("y9,5;c0,0,0;"), 0, 0, 0);
        rests("NONE", x, NONE, NONE, NONE);
        x.sentence(0, 1);
        rests("as many", x, 0, 1, 2);
        doc.says("BAD; STATE: no COUNTY (ahead of BAD).");
        doc.due("what -1", x.atRest(-1), BAD);
        doc.due("what 3", x.atRest(3), BAD);
        doc.due("no COUNTY", new SpentWeeks().atRest(0), STATE);
        doc.due("no COUNTY, and 3", new SpentWeeks().atRest(3), STATE);
        rests("nobody", Check.with("y1,1;"), 0, 0, 0);
    }

    private void imagesAreKept() {
        doc.promise(29);
        doc.says("An IMAGE (0, 1) is kept of the COUNTY: 1.");
        SpentWeeks x = Check.with(CALM);
        x.sentence(0, 5);
        doc.due("0", x.image(0), 1);
        x.sentence(0, 6);
        doc.due("1", x.image(1), 1);
        doc.due("no ACT", x.count(5), 2);
        x.sentence(0, 7);
        doc.due("0 is back", x.restore(0) + x.person(0, 0), 6);
        doc.due("1 is back", x.restore(1) + x.person(0, 0), 12);
        doc.due("0 is kept anew", x.image(0) + x.restore(0) + x.person(0, 0), 13);
        doc.due("of nobody", Check.with("y1,1;").image(0), 1);
        doc.says("BAD; STATE: no COUNTY.");
        doc.due("-1", x.image(-1), BAD);
        doc.due("2", x.image(2), BAD);
        doc.due("no COUNTY", new SpentWeeks().image(0), STATE);
        doc.due("no COUNTY", new SpentWeeks().image(1), STATE);
        doc.due("BAD ahead of STATE", new SpentWeeks().image(2), BAD);
    }

    private void imagesAreRestored() {
        doc.promise(30);
        doc.says("The COUNTY is as an IMAGE kept it (no ACT can be undone then): 1.");
        SpentWeeks x = Refusals.full();
        String kept = Tale.now(x);
        x.image(1);
        x.deed(0, 30);
        x.sale(0, 5, 30, 30);
        x.dies(3, 5);
        x.month(3);
        x.pardon(2);
        doc.due("1", x.restore(1), 1);
        String noActs = kept.replaceFirst("^((?:\\S+ ){5})\\S+ ", "$10 ");
        doc.same("as it was kept", Tale.now(x), noActs);
        doc.due("no ACT", x.undo(), STATE);
        x.month(3);
        doc.due("an ACT", x.undo(), 0);
        x.month(3);
        doc.due("again", x.restore(1), 1);
        doc.same("as it was kept", Tale.now(x), noActs);
        doc.says("BAD; STATE: none was kept.");
        doc.due("-1", x.restore(-1), BAD);
        doc.due("2", x.restore(2), BAD);
        SpentWeeks none = Check.with(CALM);
        doc.due("none was kept", none.restore(0), STATE);
        none.image(0);
        doc.due("none was kept as 1", none.restore(1), STATE);
        doc.due("0 was kept", none.restore(0), 1);
        none.sentence(0, 5);
        doc.due("STATE leaves the ACTS", none.restore(1) + none.undo(), STATE);
        doc.due("no COUNTY", new SpentWeeks().restore(1), STATE);
        doc.due("BAD ahead of STATE", new SpentWeeks().restore(2), BAD);
    }
}

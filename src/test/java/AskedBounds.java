/** KINDS, ASKS, THE TRACE, counts and the status at their bounds: promises 1 and 31 to 36. */
final class AskedBounds {
    private static final int NONE = SpentWeeks.NONE, BAD = SpentWeeks.BAD, STATE = SpentWeeks.STATE;
    private static final int NULL = -1000011, PLACE = -1000012, KIND = -1000013, SIZE = -1000014, STORE = -1000015;
    private static final String ALL = "y3,20;c0,10,50;s0,4,0;h0,30,99;t0,20,5;p0,15,40;c0,0,0;";

    private final Doc doc;

    AskedBounds(Doc doc) {
        this.doc = doc;
    }

    void hold() {
        aNewObjectHasNothing();
        numbersGoFromNoneOn();
        findingsHaveNumbers();
        kindsAreThese();
        asksBegin();
        kindsAreTold();
        kindsAreTaken();
        asksHaveBounds();
        tracesHaveBounds();
        countsHaveBounds();
        theStatusIsOfTheLatest();
        callsThatLeaveTheStatus();
        manyCalls();
    }

    private void aNewObjectHasNothing() {
        doc.promise(1);
        doc.says("No COUNTY.");
        SpentWeeks x = new SpentWeeks();
        doc.due("no IMAGE can be kept", x.image(0), STATE);
        doc.due("no MONTH", x.month(1), STATE);
        doc.due("no MARKET", x.market(0, 0), STATE);
        doc.due("nobody", x.kind(0), BAD);
        doc.due("nothing can be undone", x.undo(), STATE);
        doc.due("no IMAGE", x.restore(0), STATE);
        for (int what = 0; what < 7; what++) {
            doc.due("count " + what, x.count(what), 0);
        }
        doc.due("the status", x.status(), 0);
        doc.due("no FAULT", x.fault(), 0);
        doc.due("no TRACE", x.trace(0), NONE);
        SpentWeeks one = Refusals.full();
        doc.same("each has its own", Tale.whole(new SpentWeeks()), Tale.whole(x));
        doc.same("one leaves another as it is", Tale.whole(one), Tale.whole(Refusals.full()));
    }

    private void numbersGoFromNoneOn() {
        doc.terms();
        doc.says("Numbers go from 0 on.");
        SpentWeeks x = Check.with(ALL);
        x.sentence(0, 5);
        x.row(0, 0, 1);
        doc.due("PEOPLE", x.kind(0), 1);
        doc.due("LOTS", x.lot(0, 0, 0), 5);
        doc.due("MONTHS", x.lot(0, 0, 1), 0);
        doc.due("ITEMS", x.set(0, 0, 9), 9);
        doc.due("places on the tape", x.county(), -1000100);
        doc.due("IMAGES", x.image(0), 1);
        x.ask(0, 1);
        doc.due("numbers of THE TRACE", x.trace(0), 21);
        doc.cannotBeSeen(", but fractions, told as two numbers in lowest terms (0 is 0 by 1).", "no call answers one");
    }

    private void findingsHaveNumbers() {
        doc.says("Refusals are answers, the first of these that fits, but as told: BAD (a number is not as told; there is no such"
            + " thing), STATE (as told), FULL (as told), then FINDINGS, of several the first in time: -1000010 less 1 NULL (a"
            + " ROW that is missing), 2 PLACE (no such place of a ROW), 3 KIND (one of the PEOPLE that is not that), 4 SIZE"
            + " (fewer than none), 5 STORE (ROWS of two LANES).");
        doc.due("NONE", SpentWeeks.NONE, -1000000);
        doc.due("BAD", SpentWeeks.BAD, -1000001);
        doc.due("STATE", SpentWeeks.STATE, -1000002);
        doc.due("FULL", SpentWeeks.FULL, -1000003);
        SpentWeeks x = Refusals.full();
        doc.due("NULL", x.set(4, 0, 0), -1000011);
        doc.due("PLACE", x.set(0, 5, 0), -1000012);
        doc.due("KIND", x.as(0, 2), -1000013);
        doc.due("SIZE", x.row(0, 0, -1), -1000014);
        doc.due("STORE", x.copy(0, 0, 2, 0, 1), -1000015);
        doc.due("BAD ahead of STATE", x.sale(1, 1, 999, 0), BAD);
        doc.due("STATE ahead of FULL", x.sale(1, 0, 999, 0), STATE);
        doc.due("STATE ahead of FINDINGS", new SpentWeeks().ring(0, 0, 1, 0), STATE);
        doc.due("BAD ahead of NULL", x.set(8, 0, 0), BAD);
        doc.due("NULL ahead of PLACE", x.set(4, -1, 0), NULL);
        doc.due("NULL ahead of STORE", x.copy(4, 0, 2, 0, 0), NULL);
        doc.due("STORE ahead of PLACE", x.copy(0, -1, 2, -1, -1), STORE);
        doc.due("PLACE ahead of an ITEM that is BAD", x.cover(0, 3, 0, 12), PLACE);
    }

    private void kindsAreThese() {
        doc.says("KINDS of PEOPLE: 0 PERSON; 1 CITIZEN, a PERSON; 2 SAINT, a CITIZEN; 3 HEIR, a CITIZEN; 4 THIEF, a PERSON; 5"
            + " PARDONED, a THIEF. By this it is asked.");
        SpentWeeks x = Check.with(ALL);
        int[][] are = {{0, 1}, {0, 1, 2}, {0, 1, 3}, {0, 4}, {0, 4, 5}, {0, 1}};
        for (int one = 0; one < 6; one++) {
            int next = 0;
            for (int kind = 0; kind < 6; kind++) {
                boolean is = next < are[one].length && are[one][next] == kind;
                next += is ? 1 : 0;
                doc.due("as(" + one + ", " + kind + ")", x.as(one, kind), is ? one : KIND);
            }
        }
    }

    private void asked(String name, SpentWeeks x, int one, int what, int want, int... bodies) {
        doc.due(name, x.ask(one, what), want);
        for (int k = 0; k < 17; k++) {
            doc.due(name + ": trace " + k, x.trace(k), k < bodies.length ? bodies[k] : NONE);
        }
    }

    /** Number n has 10 and n DAYS in one LOT, and 5 in another. */
    private static SpentWeeks withLots() {
        SpentWeeks x = Check.with(ALL);
        for (int one = 0; one < 6; one++) {
            x.sentence(one, 10 + one);
            x.sentence(one, 5);
        }
        return x;
    }

    private void asksBegin() {
        doc.says("ASKS of PEOPLE, by BODIES, each of which leaves its number in THE TRACE as it begins (the first 16):");
        SpentWeeks x = withLots();
        asked("the longest", x, 1, 0, -(16 + 6), 12, 11, 10, 24, 21, 20);
        doc.says("0 SIZE: 10 lent to all PEOPLE: UNSPENT. 11 of CITIZENS: what 10 gives, and MARK. 12 of SAINTS: 0 less what 11"
            + " gives. 13 of THIEVES: what 10 gives, less 100. 14 of PARDONED ones: what 13 gives, twice.");
        asked("a citizen", x, 0, 0, 15 + 2, 11, 10, 21, 20);
        asked("a saint", x, 1, 0, -(16 + 2 * (1 + 2)), 12, 11, 10, 24, 21, 20);
        asked("an heir", x, 2, 0, 17 + 2 + 2 - 1000, 11, 10, 22, 21, 20);
        asked("a thief", x, 3, 0, 18 - 100, 13, 10);
        asked("one who was pardoned", x, 4, 0, 2 * (19 - 100), 14, 13, 10);
        asked("the last", x, 5, 0, 20 + 5 + 2, 11, 10, 21, 20);
        doc.says("1 MARK: 20 lent to all PEOPLE: his number. 21 of CITIZENS: what 20 gives, and how many LOTS he has. 22 of"
            + " HEIRS: what 21 gives, less 1000. 23 of THIEVES: what 20 gives, less SIZE. 24 of SAINTS: what 21 gives, twice.");
        asked("a citizen", x, 0, 1, 2, 21, 20);
        asked("a saint", x, 1, 1, 2 * (1 + 2), 24, 21, 20);
        asked("an heir", x, 2, 1, 2 + 2 - 1000, 22, 21, 20);
        asked("a thief", x, 3, 1, 3 - (18 - 100), 23, 20, 13, 10);
        asked("the last", x, 5, 1, 5 + 2, 21, 20);
        doc.says("(Of an ask the BODY told for the KIND begins, else that of the nearest KIND that it is, too, else the one that"
            + " is lent; SIZE, MARK within others are asked of the same one anew.)");
        asked("an heir's SIZE is a citizen's, with an heir's MARK", x, 2, 0, -979, 11, 10, 22, 21, 20);
        asked("a pardoned one's MARK is a thief's, with his own SIZE", x, 4, 1, 4 + 162, 23, 20, 14, 13, 10);
        SpentWeeks none = Check.with(ALL);
        asked("with nothing", none, 0, 0, 0, 11, 10, 21, 20);
        asked("with nothing", none, 4, 0, -200, 14, 13, 10);
        SpentWeeks most = Check.with(ALL);
        for (int k = 0; k < 10; k++) {
            most.sentence(4, 999);
            most.sentence(1, 999);
        }
        asked("with 9990", most, 4, 1, 4 - 2 * 9890, 23, 20, 14, 13, 10);
        asked("with six LOTS", most, 1, 0, -(9990 + 2 * 7), 12, 11, 10, 24, 21, 20);
    }

    private void kindsAreTold() {
        doc.promise(31);
        doc.says("The KIND of one, as told (1 to 5).");
        SpentWeeks x = Check.with(ALL);
        int[] kinds = {1, 2, 3, 4, 5, 1};
        for (int one = 0; one < 6; one++) {
            doc.due("kind of " + one, x.kind(one), kinds[one]);
        }
        x.deed(3, 5);
        x.pardon(3);
        x.dies(0, 3);
        doc.due("as told, for all ACTS", x.kind(3) + 10 * x.kind(0), 14);
        doc.says("BAD.");
        doc.due("-1", x.kind(-1), BAD);
        doc.due("6", x.kind(6), BAD);
        doc.due("1 of one", Check.with("y1,1;t0,0,0;").kind(1), BAD);
        doc.due("no COUNTY", new SpentWeeks().kind(0), BAD);
    }

    private void kindsAreTaken() {
        doc.promise(32);
        doc.says("One is taken as one of a KIND (0 .. 5): its number.");
        SpentWeeks x = Check.with(ALL);
        doc.due("a PERSON", x.as(5, 0), 5);
        doc.due("a PARDONED one", x.as(4, 5), 4);
        doc.says("BAD; KIND: it is no such one.");
        doc.due("KIND -1", x.as(0, -1), BAD);
        doc.due("KIND 6", x.as(0, 6), BAD);
        doc.due("one -1", x.as(-1, 0), BAD);
        doc.due("one 6", x.as(6, 0), BAD);
        doc.due("no COUNTY", new SpentWeeks().as(0, 0), BAD);
        doc.due("a CITIZEN is no SAINT", x.as(0, 2), KIND);
        doc.due("a THIEF is not PARDONED", x.as(3, 5), KIND);
        doc.due("BAD ahead of KIND", x.as(6, 2), BAD);
    }

    private void asksHaveBounds() {
        doc.promise(33);
        doc.says("An ASK (0, 1) of one.");
        SpentWeeks x = withLots();
        doc.due("SIZE", x.ask(0, 0), 17);
        doc.due("MARK", x.ask(0, 1), 2);
        doc.says("BAD.");
        doc.due("-1", x.ask(0, -1), BAD);
        doc.due("2", x.ask(0, 2), BAD);
        doc.due("one -1", x.ask(-1, 0), BAD);
        doc.due("one 6", x.ask(6, 0), BAD);
        doc.due("no COUNTY", new SpentWeeks().ask(0, 0), BAD);
        doc.says("THE TRACE is empty ahead of it.");
        asked("a long one", x, 1, 0, -22, 12, 11, 10, 24, 21, 20);
        asked("a short one", x, 3, 0, -82, 13, 10);
        x.ask(6, 0);
        doc.due("what is BAD leaves it", x.trace(0), 13);
    }

    private void tracesHaveBounds() {
        doc.promise(34);
        doc.says("Number i of THE TRACE; NONE.");
        SpentWeeks x = withLots();
        doc.due("ahead of an ask", x.trace(0), NONE);
        x.ask(4, 1);
        int[] wants = {23, 20, 14, 13, 10, NONE};
        for (int i = 0; i < wants.length; i++) {
            doc.due("number " + i, x.trace(i), wants[i]);
        }
        doc.due("-1", x.trace(-1), NONE);
        doc.due("15", x.trace(15), NONE);
        doc.due("16", x.trace(16), NONE);
        doc.due("an int's end", x.trace(Integer.MAX_VALUE), NONE);
        doc.due("the other end", x.trace(Integer.MIN_VALUE), NONE);
        x.month(5);
        x.undo();
        Check.county(x, "y1,1;");
        doc.due("it stays till the next ask", x.trace(4), 10);
    }

    private void countsHaveBounds() {
        doc.promise(35);
        doc.says("How many: 0 ROWS, 1 PEOPLE, 2 the MONTH, 3 UNSPENT of all, 4 what all OWE, 5 ACTS that can be undone, 6 bytes"
            + " on the tape.");
        SpentWeeks x = new SpentWeeks();
        for (int row = 0; row < 8; row++) {
            x.row(row, 0, 0);
        }
        doc.due("all ROWS", x.count(0), 8);
        x.drop(0);
        x.drop(7);
        doc.due("two fewer", x.count(0), 6);
        Check.county(x, ALL);
        doc.due("PEOPLE", x.count(1), 6);
        doc.due("MONTH", x.count(2), 0);
        x.month(1);
        doc.due("MONTH", x.count(2), 1);
        for (int one = 0; one < 6; one++) {
            Check.owe(x, one, 9999);
            Check.give(x, one, 9999);
        }
        doc.due("the most UNSPENT", x.count(3), 59994);
        doc.due("the most OWED", x.count(4), 59994);
        doc.due("the most ACTS", x.count(5), 24);
        doc.due("no bytes", x.count(6), 0);
        for (int k = 0; k < 130; k++) {
            x.feed('y');
        }
        doc.due("the most bytes", x.count(6), 120);
        doc.says("BAD.");
        doc.due("-1", x.count(-1), BAD);
        doc.due("7", x.count(7), BAD);
    }

    private void status(String name, SpentWeeks x, int answer, int wantedAnswer, int wantedStatus) {
        doc.due(name, answer, wantedAnswer);
        doc.due(name + ": status", x.status(), wantedStatus);
        doc.due(name + ": status, asked again", x.status(), wantedStatus);
    }

    private void theStatusIsOfTheLatest() {
        doc.promise(36);
        doc.says("Of the latest call with a ROW, or as(), that was not BAD, STATE, FULL: the number of its FINDING; 0: it had"
            + " none, or there was none.");
        SpentWeeks x = Check.with(ALL);
        doc.due("there was none", x.status(), 0);
        status("set: NULL", x, x.set(0, 0, 1), NULL, 1);
        status("row: none", x, x.row(0, 1, 6), 6, 0);
        status("set: PLACE", x, x.set(0, 6, 1), PLACE, 2);
        status("set: none", x, x.set(0, 5, 1), 1, 0);
        status("as: KIND", x, x.as(0, 5), KIND, 3);
        status("as: none", x, x.as(0, 1), 0, 0);
        status("row: SIZE", x, x.row(1, 0, -1), SIZE, 4);
        status("row: none", x, x.row(1, 0, 1), 1, 0);
        status("copy: STORE", x, x.copy(0, 0, 1, 0, 1), STORE, 5);
        status("copy: none", x, x.copy(0, 0, 0, 1, 1), 1, 0);
        status("drop: NULL", x, x.drop(7), NULL, 1);
        status("drop: none", x, x.drop(1), 1, 0);
        status("cover: NULL", x, x.cover(0, 7, 0, 1), NULL, 1);
        status("cover: none", x, x.cover(0, 0, 5, 1), 1, 0);
        status("bestOrder: PLACE", x, x.bestOrder(0, 0, 6, 1, 0), PLACE, 2);
        status("bestOrder: none", x, x.bestOrder(0, 0, 5, 1, 0), 0, 0);
        status("ring: NULL", x, x.ring(7, 0, 1, 0), NULL, 1);
        x.set(0, 0, 0);
        x.set(0, 1, 1);
        x.set(0, 2, 1);
        x.as(0, 5);
        status("ring: none", x, x.ring(0, 0, 1, 0), 0, 0);
        status("wrong: PLACE", x, x.wrong(0, 1, -1), PLACE, 2);
        status("wrong: none", x, x.wrong(0, 0, -1), 1 << 1 | 1 << 2 | 1 << 5, 0);
        status("satFor: NULL", x, x.satFor(7, 0, 0, 0, 0), NULL, 1);
        status("satFor: NONE is none", x, x.satFor(0, 5, 1, 2, 1), NONE, 0);
        x.drop(7);
        Check.row(x, 2, 2, 999, 999);
        x.drop(7);
        status("cover: NONE is none", x, x.cover(0, 2, 0, 2), NONE, 0);
        x.drop(7);
        Check.row(x, 3, 2, 9, 9, 9, 9, 9, 9);
        x.drop(7);
        status("wrong: NONE is none", x, x.wrong(3, 0, 0), NONE, 0);
    }

    private void callsThatLeaveTheStatus() {
        SpentWeeks x = Refusals.full();
        status("STORE", x, x.copy(0, 0, 1, 0, 0), STORE, 5);
        status("row: BAD", x, x.row(0, 0, 41), BAD, 5);
        status("set: BAD", x, x.set(8, 0, 0), BAD, 5);
        status("copy: BAD", x, x.copy(0, 0, 8, 0, 0), BAD, 5);
        status("drop: BAD", x, x.drop(8), BAD, 5);
        status("as: BAD", x, x.as(6, 0), BAD, 5);
        status("cover: BAD", x, x.cover(0, 0, 0, 13), BAD, 5);
        status("cover: BAD by an ITEM", x, x.cover(0, 3, 0, 1), BAD, 5);
        status("bestOrder: BAD by an ITEM", x, x.bestOrder(0, 3, 0, 1, 0), BAD, 5);
        status("ring: BAD by ITEMS", x, x.ring(5, 2, 1, 0), BAD, 5);
        status("wrong: BAD by an ITEM", x, x.wrong(3, 0, -1), BAD, 5);
        status("satFor: BAD by an ITEM", x, x.satFor(3, 0, 1, 0, 0), BAD, 5);
        x.sentence(1, 1);
        x.deed(1, 1);
        x.month(1);
        x.ahead(0, 1, 1, 0);
        x.market(0, 0);
        x.ask(0, 0);
        x.kind(0);
        x.image(1);
        x.restore(1);
        x.count(0);
        x.county();
        Check.county(x, ALL);
        doc.due("calls without a ROW", x.status(), 5);
        SpentWeeks none = new SpentWeeks();
        none.drop(0);
        status("ring: STATE", none, none.ring(0, 0, 1, 0), STATE, 1);
        status("wrong: STATE", none, none.wrong(0, 0, 0), STATE, 1);
    }

    private void manyCalls() {
        doc.whatItIs();
        doc.says("An object is used for at most 512 calls after it has been made; what later calls answer is free.");
        SpentWeeks x = new SpentWeeks();
        Check.feed(x, "y3,20;c0,10,50;");
        x.county();
        for (int k = 17; k < 512; k++) {
            doc.due("call " + k, x.sentence(0, 1), k - 16);
        }
        doc.due("call 512", x.person(0, 0), 495);
    }
}

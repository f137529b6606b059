/** Promises 9 to 18: what is done, undone, and how people stand then. */
public final class ActsTest {
    private static final int BAD = SpentWeeks.BAD, STATE = SpentWeeks.STATE, FULL = SpentWeeks.FULL;
    private static final String CALM = "y2,5;c0,10,50;s0,4,0;h0,30,99;t0,20,5;p0,15,40;";
    private static final Check check = new Check();

    public static void main(String[] args) {
        sentencesCome();
        lotsAreSixAtMost();
        deedsSpend();
        thievesSpendFromTheLast();
        daysAreSold();
        oneKindPays();
        oneDies();
        onePardons();
        monthsAreDrawn();
        lotsLapse();
        actsAreUndone();
        actsAreForgotten();
        monthsHaveAnEnd();
        check.end();
    }

    private static void stands(SpentWeeks x, int one, int... wants) {
        int[] whats = {0, 1, 2, 3, 6};
        for (int k = 0; k < wants.length; k++) {
            check.due("person(" + one + ", " + whats[k] + ")", x.person(one, whats[k]), wants[k]);
        }
    }

    private static void lots(SpentWeeks x, int one, int... daysAndMonths) {
        int n = daysAndMonths.length / 2;
        check.due("lots of " + one, x.person(one, 6), n);
        for (int k = 0; k < n; k++) {
            check.due("days of lot " + k + " of " + one, x.lot(one, k, 0), daysAndMonths[2 * k]);
            check.due("month of lot " + k + " of " + one, x.lot(one, k, 1), daysAndMonths[2 * k + 1]);
        }
        check.due("no lot more", x.lot(one, n, 0), BAD);
        check.due("no lot more", x.lot(one, n, 1), BAD);
    }

    private static void sentencesCome() {
        SpentWeeks x = Check.with(CALM);
        check.due("sentence(0, 1)", x.sentence(0, 1), 1);
        check.due("sentence(0, 999)", x.sentence(0, 999), 1000);
        check.due("sentence(0, 0)", x.sentence(0, 0), BAD);
        check.due("sentence(0, 1000)", x.sentence(0, 1000), BAD);
        check.due("sentence(5, 1)", x.sentence(5, 1), BAD);
        check.due("sentence(-1, 1)", x.sentence(-1, 1), BAD);
        x.month(1);
        check.due("sentence(0, 3)", x.sentence(0, 3), 1003);
        lots(x, 0, 1, 0, 999, 0, 3, 1);
        check.due("lot(0, -1, 0)", x.lot(0, -1, 0), BAD);
        check.due("lot(0, 0, 2)", x.lot(0, 0, 2), BAD);
        check.due("lot(0, 0, -1)", x.lot(0, 0, -1), BAD);
        check.due("lot(5, 0, 0)", x.lot(5, 0, 0), BAD);
        check.due("person(0, 7)", x.person(0, 7), BAD);
        check.due("person(0, -1)", x.person(0, -1), BAD);
        check.due("person(-1, 0)", x.person(-1, 0), BAD);
        check.due("person(5, 4)", x.person(5, 4), BAD);
    }

    private static void lotsAreSixAtMost() {
        SpentWeeks x = Check.with(CALM);
        for (int k = 1; k <= 6; k++) {
            x.sentence(0, k);
        }
        x.month(1);
        check.due("the seventh", x.sentence(0, 10), 31);
        lots(x, 0, 1, 0, 2, 0, 3, 0, 4, 0, 5, 0, 16, 0);
        x.deed(0, 1);
        x.sentence(0, 7);
        lots(x, 0, 2, 0, 3, 0, 4, 0, 5, 0, 16, 0, 7, 1);
        for (int k = 0; k < 9; k++) {
            x.sentence(0, 999);
        }
        check.due("to the top", x.sentence(0, 9999 - 37 - 8991), 9999);
        check.due("above it", x.sentence(0, 1), FULL);
        check.due("BAD ahead of FULL", x.sentence(0, 1000), BAD);
        check.due("FULL is no act", x.count(5), 20);
    }

    private static void deedsSpend() {
        SpentWeeks x = Check.with(CALM);
        x.sentence(0, 10);
        x.sentence(0, 5);
        check.due("deed(0, 12)", x.deed(0, 12), 0);
        lots(x, 0, 3, 0);
        check.due("deed(0, 3)", x.deed(0, 3), 0);
        lots(x, 0);
        check.due("deed(0, 999)", x.deed(0, 999), 999);
        x.sentence(0, 4);
        check.due("days, and more that are missing", x.deed(0, 5), 1000);
        stands(x, 0, 0, 1000, 50, 4, 0);
        check.due("deed(0, 0)", x.deed(0, 0), BAD);
        check.due("deed(0, 1000)", x.deed(0, 1000), BAD);
        check.due("deed(5, 1)", x.deed(5, 1), BAD);
        check.due("deed(-1, 1)", x.deed(-1, 1), BAD);
        for (int k = 0; k < 9; k++) {
            x.deed(0, 999);
        }
        check.due("owes", x.person(0, 1), 9991);
        check.due("9999 at most", x.deed(0, 9), 9999);
        check.due("done", x.person(0, 3), 14);
    }

    private static void thievesSpendFromTheLast() {
        SpentWeeks x = Check.with(CALM);
        for (int one = 0; one < 5; one++) {
            x.sentence(one, 4);
            x.sentence(one, 5);
            x.sentence(one, 6);
            x.deed(one, 8);
        }
        lots(x, 0, 1, 0, 6, 0);
        lots(x, 1, 1, 0, 6, 0);
        lots(x, 2, 1, 0, 6, 0);
        lots(x, 3, 4, 0, 3, 0);
        lots(x, 4, 4, 0, 3, 0);
    }

    private static void daysAreSold() {
        SpentWeeks x = Check.with(CALM);
        x.sentence(0, 10);
        x.month(1);
        check.due("sale(0, 3, 4, 30)", x.sale(0, 3, 4, 30), 4);
        lots(x, 0, 6, 0);
        lots(x, 3, 4, 1);
        check.due("seller's cash", x.person(0, 2), 80);
        check.due("buyer's cash", x.person(3, 2), -25);
        check.due("a sale is no deed", x.person(0, 3), 0);
        check.due("fewer", x.sale(0, 1, 7, 0), STATE);
        check.due("alike", x.sale(0, 0, 1, 0), BAD);
        check.due("no seller", x.sale(5, 0, 1, 0), BAD);
        check.due("no buyer", x.sale(0, -1, 1, 0), BAD);
        check.due("no days", x.sale(0, 1, 0, 0), BAD);
        check.due("too many", x.sale(0, 1, 1000, 0), BAD);
        check.due("cash below", x.sale(0, 1, 1, -1), BAD);
        check.due("cash above", x.sale(0, 1, 1, 1000), BAD);
        check.due("all of them", x.sale(0, 1, 6, 999), 6);
        lots(x, 0);
        for (int k = 0; k < 10; k++) {
            x.sentence(2, 999);
        }
        check.due("to the top", x.sale(3, 2, 4, 0), 9994);
        check.due("above it", x.sale(1, 2, 6, 0), FULL);
        check.due("STATE ahead of FULL", x.sale(1, 2, 7, 0), STATE);
        check.due("up to it", x.sale(1, 2, 5, 0), 9999);
    }

    private static void oneKindPays() {
        SpentWeeks x = Check.with(CALM);
        x.deed(3, 10);
        check.due("no days", x.pays(3, 1), STATE);
        x.sentence(3, 4);
        x.sentence(3, 3);
        check.due("pays(3, 4)", x.pays(3, 4), 6);
        lots(x, 3, 3, 0);
        check.due("fewer", x.pays(3, 4), STATE);
        x.sentence(3, 9);
        check.due("owes less", x.pays(3, 7), STATE);
        check.due("all", x.pays(3, 6), 0);
        check.due("done", x.person(3, 3), 1);
        check.due("owes nothing", x.pays(3, 1), STATE);
        check.due("pays(3, 0)", x.pays(3, 0), BAD);
        check.due("pays(3, 1000)", x.pays(3, 1000), BAD);
        check.due("pays(5, 1)", x.pays(5, 1), BAD);
        check.due("pays(-1, 1)", x.pays(-1, 1), BAD);
        lots(x, 3, 3, 0, 3, 0);
    }

    private static void oneDies() {
        SpentWeeks x = Check.with(CALM);
        x.sentence(3, 4);
        x.sentence(3, 3);
        x.sentence(2, 8);
        x.deed(0, 9);
        x.deed(3, 1);
        x.month(1);
        check.due("dies(3, 2)", x.dies(3, 2), 14);
        lots(x, 2, 8, 0, 4, 1, 2, 1);
        stands(x, 3, 0, 0, 0, 1, 0);
        stands(x, 2, 14, 0, 104, 0, 3);
        check.due("who owes", x.dies(0, 1), 0);
        stands(x, 0, 0, 0, 0, 1, 0);
        stands(x, 1, 0, 0, 50, 0, 0);
        check.due("alike", x.dies(2, 2), BAD);
        check.due("nobody", x.dies(5, 2), BAD);
        check.due("no heir", x.dies(2, 5), BAD);
        check.due("no heir", x.dies(2, -1), BAD);
        for (int k = 0; k < 10; k++) {
            x.sentence(0, 999);
        }
        check.due("above the top", x.dies(2, 0), FULL);
        x.deed(2, 5);
        check.due("up to it, with lots beyond six", x.dies(2, 0), 9999);
        lots(x, 0, 999, 1, 999, 1, 999, 1, 999, 1, 999, 1, 5004, 1);
        for (int k = 0; k < 5; k++) {
            x.sentence(1, 1);
        }
        x.sentence(2, 20);
        x.sentence(2, 30);
        x.sentence(2, 40);
        check.due("one by one", x.dies(2, 1), 95);
        lots(x, 1, 1, 1, 1, 1, 1, 1, 1, 1, 1, 1, 90, 1);
    }

    private static void onePardons() {
        SpentWeeks x = Check.with(CALM);
        x.deed(0, 9);
        check.due("pardon(0)", x.pardon(0), 9);
        check.due("owes", x.person(0, 1), 0);
        check.due("done", x.person(0, 3), 1);
        check.due("pardon(0) again", x.pardon(0), 0);
        check.due("an act, too", x.count(5), 3);
        check.due("kind stays", x.kind(0), 1);
        check.due("pardon(5)", x.pardon(5), BAD);
        check.due("pardon(-1)", x.pardon(-1), BAD);
    }

    private static void monthsAreDrawn() {
        // X by a SEED of 1: 16807, 282475249, 1622650073, 984943658, 1144108930
        SpentWeeks x = Check.with("y1,30;c9,0,0;c9,0,0;c9,0,0;s9,0,0;c8,0,0;");
        check.due("month(1)", x.month(1), 3);
        int[] owed = {1, 0, 18, 0, 14};
        for (int k = 0; k < 5; k++) {
            check.due("owes " + k, x.person(k, 1), owed[k]);
            check.due("done " + k, x.person(k, 3), owed[k] > 0 ? 1 : 0);
        }
        check.due("MONTH", x.count(2), 1);
        check.due("a lean of 7 is not more than 7", Check.with("y1,1;c7,0,0;").month(1), 0);
        check.due("a lean of 8 is", Check.with("y1,1;c8,0,0;").month(1), 1);
        check.due("a saint", Check.with("y1,1;s9,0,0;").month(1), 0);
        check.due("month(0)", x.month(0), BAD);
        check.due("month(1000000)", x.month(1000000), BAD);
        check.due("month(999999)", x.month(999999) >= 0 ? 1 : 0, 1);
        check.due("STATE ahead of BAD", new SpentWeeks().month(0), STATE);
        SpentWeeks nobody = Check.with("y1,1;");
        check.due("nobody does anything", nobody.month(5), 0);
        check.due("it is the next month", nobody.count(2), 1);
    }

    private static void lotsLapse() {
        SpentWeeks x = Check.with(CALM);
        for (int one = 0; one < 5; one++) {
            x.sentence(one, 7);
            x.deed(one, 16);
            x.sentence(one, 5);
        }
        x.month(3);
        x.sentence(0, 6);
        x.month(3);
        lots(x, 0, 5, 0, 6, 1);
        check.due("half of 9, of 4", x.person(4, 1), 2);
        check.due("others owe as much", x.person(3, 1), 9);
        x.month(3);
        lots(x, 0, 6, 1);
        lots(x, 1);
        lots(x, 2, 5, 0);
        lots(x, 3);
        lots(x, 4);
        x.month(3);
        lots(x, 0);
        lots(x, 2, 5, 0);
        check.due("half of 2, of 1", x.person(4, 1), 0);
    }

    private static void actsAreUndone() {
        SpentWeeks x = Check.with("y1,5;c0,10,50;h0,4,7;p0,3,1;");
        check.due("none", x.undo(), STATE);
        x.sentence(0, 9);
        x.deed(2, 6);
        x.sale(0, 1, 4, 20);
        x.month(5);
        x.month(5);
        x.sentence(2, 5);
        x.pays(2, 1);
        x.dies(2, 1);
        x.pardon(0);
        check.due("acts", x.count(5), 9);
        check.due("a pardon", x.undo(), 8);
        check.due("a death", x.undo(), 7);
        stands(x, 2, 4, 0, 1, 1, 1);
        stands(x, 1, 4, 0, -13, 0, 1);
        check.due("paid", x.undo(), 6);
        stands(x, 2, 5, 1, 1, 1, 1);
        check.due("a sentence", x.undo(), 5);
        stands(x, 2, 0, 1, 1, 1, 0);
        check.due("0's lapsed", x.person(0, 0), 0);
        check.due("a month", x.undo(), 4);
        check.due("MONTH", x.count(2), 1);
        check.due("0's are there", x.person(0, 0), 5);
        check.due("2 owes", x.person(2, 1), 3);
        check.due("a month", x.undo(), 3);
        check.due("2 owes", x.person(2, 1), 6);
        check.due("a sale", x.undo(), 2);
        stands(x, 0, 9, 0, 50, 0, 1);
        stands(x, 1, 0, 0, 7, 0, 0);
        check.due("a deed", x.undo(), 1);
        stands(x, 2, 0, 0, 1, 0, 0);
        check.due("a sentence", x.undo(), 0);
        check.due("UNSPENT", x.count(3), 0);
        check.due("none", x.undo(), STATE);
        check.due("status stays", x.status(), 0);
    }

    private static void actsAreForgotten() {
        SpentWeeks x = Check.with(CALM);
        for (int k = 1; k <= 30; k++) {
            x.sentence(0, 1);
            check.due("acts", x.count(5), Math.min(24, k));
        }
        for (int k = 23; k >= 0; k--) {
            check.due("undo", x.undo(), k);
        }
        check.due("the oldest stay done", x.person(0, 0), 6);
        check.due("none", x.undo(), STATE);
        x.sentence(0, 8);
        check.due("undo", x.undo(), 0);
        check.due("as ahead", x.person(0, 0), 6);
        x.sentence(0, 1000);
        x.sale(0, 1, 999, 0);
        check.due("what is refused is no act", x.count(5), 0);
    }

    /** Beyond the 512 calls that the document knows, but nothing nearer shows that there is an end. */
    private static void monthsHaveAnEnd() {
        SpentWeeks x = Check.with("y1,1;");
        for (int k = 0; k < 999; k++) {
            x.month(1);
        }
        check.due("999 are gone", x.count(2), 999);
        check.due("month(1)", x.month(1), FULL);
        check.due("BAD ahead of FULL", x.month(0), BAD);
        check.due("none more", x.count(2), 999);
        x.undo();
        check.due("998 are gone", x.month(1), 0);
    }
}

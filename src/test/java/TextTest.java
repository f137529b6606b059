/** Promises 6 to 8: the tape, counties, faults. */
public final class TextTest {
    private static final int BAD = SpentWeeks.BAD, FULL = SpentWeeks.FULL;
    private static final Check check = new Check();

    public static void main(String[] args) {
        theTapeHasAnEnd();
        countiesAreRead();
        faultsAreFound();
        aFaultChangesNothing();
        aCountyStandsInPlace();
        check.end();
    }

    private static void theTapeHasAnEnd() {
        SpentWeeks x = new SpentWeeks();
        check.due("feed(-1)", x.feed(-1), BAD);
        check.due("feed(256)", x.feed(256), BAD);
        check.due("feed(0)", x.feed(0), 1);
        check.due("feed(255)", x.feed(255), 2);
        for (int k = 3; k <= 120; k++) {
            check.due("feed", x.feed('a'), k);
        }
        check.due("feed beyond", x.feed('a'), FULL);
        check.due("BAD ahead of FULL", x.feed(256), BAD);
        check.due("count(6)", x.count(6), 120);
        check.due("county", x.county(), -1000100);
        check.due("count(6)", x.count(6), 0);
        check.due("feed anew", x.feed('y'), 1);
    }

    private static void countiesAreRead() {
        reads("y1,1;", 0);
        reads("y24,30;", 0);
        reads("y01,09;c05,00,07;", 1);
        reads("y1,1;c0,0,0;s9,99,99;h1,2,3;t4,5,6;p7,8,9;c1,1,1;", 6);
        SpentWeeks x = Check.with("y3,20;c5,10,50;s9,4,0;h3,30,99;t7,20,5;p6,15,40;c0,0,0;");
        int[] kinds = {1, 2, 3, 4, 5, 1};
        int[] leans = {5, 9, 3, 7, 6, 0};
        int[] worths = {10, 4, 30, 20, 15, 0};
        int[] cash = {50, 0, 99, 5, 40, 0};
        for (int k = 0; k < 6; k++) {
            check.due("kind", x.kind(k), kinds[k]);
            check.due("LEAN", x.person(k, 4), leans[k]);
            check.due("WORTH", x.person(k, 5), worths[k]);
            check.due("CASH", x.person(k, 2), cash[k]);
        }
        check.due("person 6", x.kind(6), BAD);
    }

    private static void reads(String text, int people) {
        SpentWeeks x = new SpentWeeks();
        check.due(text, Check.county(x, text), people);
        check.due(text + " fault", x.fault(), 0);
        check.due(text + " people", x.count(1), people);
        check.due(text + " month stands", x.month(1) >= 0 ? 1 : 0, 1);
    }

    private static void faultsAreFound() {
        String law = "y1,1;";
        faulty("", 0, 1);
        faulty("c", 0, 1);
        faulty("Y1,1;", 0, 1);
        faulty(" y1,1;", 0, 1);
        faulty("y", 1, 1);
        faulty("yy", 1, 1);
        faulty("y0,1;", 1, 2);
        faulty("y00,1;", 1, 2);
        faulty("y25,1;", 1, 2);
        faulty("y123,1;", 1, 1);
        faulty("y001,1;", 1, 1);
        faulty("y1234,1;", 1, 1);
        faulty("y1", 2, 1);
        faulty("y1;", 2, 1);
        faulty("y1 ,1;", 2, 1);
        faulty("y1,", 3, 1);
        faulty("y1,,", 3, 1);
        faulty("y1,0;", 3, 2);
        faulty("y1,31;", 3, 2);
        faulty("y24,99;", 4, 2);
        faulty("y1,100;", 3, 1);
        faulty("y1,30", 5, 1);
        faulty("y1,30,", 5, 1);
        faulty(law + ";", 5, 1);
        faulty(law + "1", 5, 1);
        faulty(law + "y", 5, 1);
        faulty(law + "C0,0,0;", 5, 1);
        faulty(law + "c", 6, 1);
        faulty(law + "cc", 6, 1);
        faulty(law + "c,", 6, 1);
        faulty(law + "c10,0,0;", 6, 2);
        faulty(law + "c010,0,0;", 6, 1);
        faulty(law + "c0", 7, 1);
        faulty(law + "c0;", 7, 1);
        faulty(law + "c0,", 8, 1);
        faulty(law + "c0,5", 9, 1);
        faulty(law + "c0,x", 8, 1);
        faulty(law + "c0,100,0;", 8, 1);
        faulty(law + "c0,99;", 10, 1);
        faulty(law + "c0,99,", 11, 1);
        faulty(law + "c0,99,100;", 11, 1);
        faulty(law + "c0,99,99", 13, 1);
        faulty(law + "c0,99,99,", 13, 1);
        faulty(law + "c0,99,99;" + (char) 233, 14, 1);
        faulty("y25,99;", 1, 2);
        String six = "c0,0,0;c0,0,0;c0,0,0;c0,0,0;c0,0,0;c0,0,0;";
        faulty(law + six + "c0,0,0;", 47, 3);
        faulty(law + six + "t", 47, 3);
        faulty(law + six + "q0,0,0;", 47, 1);
        faulty(law + six + ";", 47, 1);
        faulty(law + six + "77", 47, 1);
    }

    private static void faulty(String text, int place, int number) {
        SpentWeeks x = new SpentWeeks();
        check.due("fault ahead of one", x.fault(), 0);
        check.due(text, Check.county(x, text), -1000100 - place);
        check.due(text + " fault", x.fault(), number);
        check.due(text + " tape", x.count(6), 0);
        check.due(text + " no county", x.month(1), SpentWeeks.STATE);
    }

    private static void aFaultChangesNothing() {
        SpentWeeks x = Check.with("y3,20;c5,10,50;h3,30,99;");
        x.sentence(0, 7);
        x.deed(1, 4);
        check.due("a fault in the second", Check.county(x, "y4,4;s1,1,1;t1,1,1"), -1000100 - 18);
        check.due("people", x.count(1), 2);
        check.due("kind", x.kind(0), 1);
        check.due("unspent", x.person(0, 0), 7);
        check.due("worth", x.person(1, 5), 30);
        check.due("acts", x.count(5), 2);
        check.due("undo", x.undo(), 1);
        check.due("owes", x.person(1, 1), 0);
        check.due("a number not as told", Check.county(x, "y4,31;"), -1000103);
        check.due("fault", x.fault(), 2);
        check.due("a county", Check.county(x, "y1,1;"), 0);
        check.due("the latest fault stays", x.fault(), 2);
    }

    private static void aCountyStandsInPlace() {
        SpentWeeks x = Check.with("y3,20;c0,10,50;h0,30,99;");
        x.sentence(0, 7);
        x.deed(1, 4);
        x.month(1);
        check.due("another", Check.county(x, "y2,2;t0,1,2;p0,3,4;s0,5,6;"), 3);
        check.due("MONTH", x.count(2), 0);
        check.due("UNSPENT", x.count(3), 0);
        check.due("OWE", x.count(4), 0);
        check.due("ACTS", x.count(5), 0);
        check.due("DONE", x.person(1, 3), 0);
        check.due("undo", x.undo(), SpentWeeks.STATE);
        check.due("CASH", x.person(0, 2), 2);
        check.due("none", Check.county(x, "y2,2;"), 0);
        check.due("nobody", x.kind(0), BAD);
        check.due("what was on the tape is gone", Check.county(x, "y2,"), -1000103);
        check.due("fault", x.fault(), 1);
        foretellingsLeaveNothing();
    }

    /** A COUNTY that is read has nothing of one that was only foretold. */
    private static void foretellingsLeaveNothing() {
        SpentWeeks x = Check.with("y24,20;c9,10,50;h9,30,99;");
        for (int one = 0; one < 2; one++) {
            x.sentence(one, 900);
            x.deed(one, 999);
            x.sentence(one, 900);
        }
        x.ahead(0, 20, 5, 1);
        check.due("another", Check.county(x, "y2,2;t0,1,2;p0,3,4;"), 2);
        for (int one = 0; one < 2; one++) {
            check.due("UNSPENT", x.person(one, 0), 0);
            check.due("OWES", x.person(one, 1), 0);
            check.due("DONE", x.person(one, 3), 0);
            check.due("LOTS", x.person(one, 6), 0);
        }
        check.due("MONTH", x.count(2), 0);
    }
}

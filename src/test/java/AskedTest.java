/** Promises 1 and 31 to 36: a new object, kinds, asks, the trace, counts. */
public final class AskedTest {
    private static final int NONE = SpentWeeks.NONE, BAD = SpentWeeks.BAD, KIND = -1000013;
    private static final String ALL = "y3,20;c0,10,50;s0,4,0;h0,30,99;t0,20,5;p0,15,40;c0,0,0;";
    private static final Check check = new Check();

    public static void main(String[] args) {
        aNewObjectHasNothing();
        kindsAreTold();
        kindsAreTaken();
        sizesAreAsked();
        marksAreAsked();
        theTraceStays();
        allIsCounted();
        check.end();
    }

    private static void aNewObjectHasNothing() {
        SpentWeeks x = new SpentWeeks();
        for (int what = 0; what < 7; what++) {
            check.due("count(" + what + ")", x.count(what), 0);
        }
        check.due("fault", x.fault(), 0);
        check.due("status", x.status(), 0);
        check.due("trace", x.trace(0), NONE);
        check.due("undo", x.undo(), SpentWeeks.STATE);
        check.due("month", x.month(1), SpentWeeks.STATE);
        check.due("kind", x.kind(0), BAD);
        for (int row = 0; row < 8; row++) {
            check.due("drop", x.drop(row), -1000011);
        }
        SpentWeeks other = Check.with(ALL);
        other.sentence(0, 5);
        check.due("each object has its own", new SpentWeeks().count(1), 0);
    }

    private static void kindsAreTold() {
        SpentWeeks x = Check.with(ALL);
        int[] kinds = {1, 2, 3, 4, 5, 1};
        for (int one = 0; one < 6; one++) {
            check.due("kind(" + one + ")", x.kind(one), kinds[one]);
        }
        check.due("kind(6)", x.kind(6), BAD);
        check.due("kind(-1)", x.kind(-1), BAD);
    }

    private static void kindsAreTaken() {
        SpentWeeks x = Check.with(ALL);
        int[][] are = {{0, 1}, {0, 1, 2}, {0, 1, 3}, {0, 4}, {0, 4, 5}, {0, 1}};
        for (int one = 0; one < 6; one++) {
            for (int kind = 0; kind < 6; kind++) {
                boolean is = false;
                for (int each : are[one]) {
                    is |= each == kind;
                }
                check.due("as(" + one + ", " + kind + ")", x.as(one, kind), is ? one : KIND);
                check.due("status", x.status(), is ? 0 : 3);
            }
        }
        check.due("as(0, 6)", x.as(0, 6), BAD);
        check.due("as(0, -1)", x.as(0, -1), BAD);
        check.due("as(6, 0)", x.as(6, 0), BAD);
        check.due("as(-1, 0)", x.as(-1, 0), BAD);
    }

    private static void asked(SpentWeeks x, int one, int what, int want, int... bodies) {
        check.due("ask(" + one + ", " + what + ")", x.ask(one, what), want);
        for (int k = 0; k < bodies.length; k++) {
            check.due("trace(" + k + ") of " + one, x.trace(k), bodies[k]);
        }
        check.due("the end of the trace of " + one, x.trace(bodies.length), NONE);
    }

    private static SpentWeeks withLots() {
        SpentWeeks x = Check.with(ALL);
        for (int one = 0; one < 5; one++) {
            x.sentence(one, 10 + one);
            x.sentence(one, 5);
        }
        return x;
    }

    private static void sizesAreAsked() {
        SpentWeeks x = withLots();
        asked(x, 0, 0, 15 + 2, 11, 10, 21, 20);
        asked(x, 1, 0, -(16 + 2 * 3), 12, 11, 10, 24, 21, 20);
        asked(x, 2, 0, 17 + 4 - 1000, 11, 10, 22, 21, 20);
        asked(x, 3, 0, 18 - 100, 13, 10);
        asked(x, 4, 0, 2 * (19 - 100), 14, 13, 10);
        asked(x, 5, 0, 5, 11, 10, 21, 20);
        check.due("ask(6, 0)", x.ask(6, 0), BAD);
        check.due("ask(-1, 0)", x.ask(-1, 0), BAD);
    }

    private static void marksAreAsked() {
        SpentWeeks x = withLots();
        asked(x, 0, 1, 2, 21, 20);
        asked(x, 1, 1, 6, 24, 21, 20);
        asked(x, 2, 1, 4 - 1000, 22, 21, 20);
        asked(x, 3, 1, 3 - (18 - 100), 23, 20, 13, 10);
        asked(x, 4, 1, 4 - 2 * (19 - 100), 23, 20, 14, 13, 10);
        asked(x, 5, 1, 5, 21, 20);
        check.due("ask(0, 2)", x.ask(0, 2), BAD);
        check.due("ask(0, -1)", x.ask(0, -1), BAD);
    }

    private static void theTraceStays() {
        SpentWeeks x = withLots();
        x.ask(4, 1);
        x.ask(0, 2);
        x.ask(6, 0);
        check.due("a BAD ask leaves it", x.trace(4), 10);
        x.sentence(0, 1);
        x.undo();
        check.due("acts leave it", x.trace(0), 23);
        check.due("trace(-1)", x.trace(-1), NONE);
        check.due("trace(16)", x.trace(16), NONE);
        check.due("trace(MAX)", x.trace(Integer.MAX_VALUE), NONE);
        check.due("trace(MIN)", x.trace(Integer.MIN_VALUE), NONE);
    }

    private static void allIsCounted() {
        SpentWeeks x = withLots();
        x.row(3, 0, 4);
        x.row(5, 1, 0);
        x.row(3, 2, 4);
        x.deed(5, 8);
        x.deed(0, 20);
        x.month(1);
        x.feed('y');
        int[] wants = {2, 6, 1, 16 + 17 + 18 + 19, 8 + 5, 13, 1};
        for (int what = 0; what < 7; what++) {
            check.due("count(" + what + ")", x.count(what), wants[what]);
        }
        x.sentence(0, 3);
        x.sentence(5, 4);
        check.due("UNSPENT of the first and last, too", x.count(3), 16 + 17 + 18 + 19 + 7);
        check.due("count(7)", x.count(7), BAD);
        check.due("count(-1)", x.count(-1), BAD);
    }
}

/** Promises 2 to 5, with what status() (36) says of them. */
public final class RowsTest {
    private static final int BAD = SpentWeeks.BAD, NULL = -1000011, PLACE = -1000012, SIZE = -1000014, STORE = -1000015;
    private static final Check check = new Check();

    public static void main(String[] args) {
        rowsAreMade();
        itemsAreCut();
        itemsAreCopied();
        rowsAreDropped();
        statusKeepsFindings();
        check.end();
    }

    private static void rowsAreMade() {
        SpentWeeks x = new SpentWeeks();
        check.due("row(7, 2, 40)", x.row(7, 2, 40), 40);
        check.due("row(0, 0, 0)", x.row(0, 0, 0), 0);
        check.due("count(0)", x.count(0), 2);
        check.due("set in no items", x.set(0, 0, 1), PLACE);
        check.due("row(8, 0, 1)", x.row(8, 0, 1), BAD);
        check.due("row(-1, 0, 1)", x.row(-1, 0, 1), BAD);
        check.due("row(0, 3, 1)", x.row(0, 3, 1), BAD);
        check.due("row(0, -1, 1)", x.row(0, -1, 1), BAD);
        check.due("row(0, 0, 41)", x.row(0, 0, 41), BAD);
        check.due("row(0, 0, MAX)", x.row(0, 0, Integer.MAX_VALUE), BAD);
        check.due("row(0, 0, -1)", x.row(0, 0, -1), SIZE);
        check.due("row(0, 0, MIN)", x.row(0, 0, Integer.MIN_VALUE), SIZE);
        check.due("BAD ahead of SIZE", x.row(0, 3, -1), BAD);
        check.due("BAD ahead of SIZE", x.row(8, 0, -1), BAD);
        x.set(7, 39, 5);
        x.set(7, 0, 5);
        check.due("an item that is not 0", x.satFor(7, 39, 1, 5, 0), 1);
        check.due("an item that is not 0", x.satFor(7, 0, 1, 5, 0), 1);
        check.due("a row in place of one", x.row(7, 2, 40), 40);
        check.due("the last item is 0 anew", x.satFor(7, 39, 1, 5, 0), BAD);
        check.due("the first item is 0 anew", x.satFor(7, 0, 1, 5, 0), BAD);
        check.due("a row of fewer", x.row(7, 2, 3), 3);
        check.due("set beyond it", x.set(7, 3, 1), PLACE);
        check.due("SIZE leaves the row", x.row(7, 0, -5), SIZE);
        check.due("it had", x.drop(7), 3);
    }

    private static void itemsAreCut() {
        SpentWeeks x = new SpentWeeks();
        x.row(0, 0, 2);
        x.row(1, 1, 2);
        x.row(2, 2, 2);
        check.due("byte 127", x.set(0, 0, 127), 127);
        check.due("byte 128", x.set(0, 0, 128), -128);
        check.due("byte 256", x.set(0, 1, 256), 0);
        check.due("byte -129", x.set(0, 1, -129), 127);
        check.due("short 32767", x.set(1, 0, 32767), 32767);
        check.due("short 32768", x.set(1, 0, 32768), -32768);
        check.due("short 65537", x.set(1, 1, 65537), 1);
        check.due("int max", x.set(2, 0, Integer.MAX_VALUE), Integer.MAX_VALUE);
        check.due("int min", x.set(2, 1, Integer.MIN_VALUE), Integer.MIN_VALUE);
        check.due("set place -1", x.set(2, -1, 0), PLACE);
        check.due("set place 2", x.set(2, 2, 0), PLACE);
        check.due("set place MAX", x.set(2, Integer.MAX_VALUE, 0), PLACE);
        check.due("set place MIN", x.set(2, Integer.MIN_VALUE, 0), PLACE);
        check.due("set of a missing row", x.set(3, -1, 0), NULL);
        check.due("set row 8", x.set(8, 0, 0), BAD);
        check.due("set row -1", x.set(-1, 0, 0), BAD);
    }

    private static void itemsAreCopied() {
        SpentWeeks x = new SpentWeeks();
        Check.row(x, 0, 1, 1, 2, 4, 8, 16);
        check.due("onto itself, forward", x.copy(0, 0, 0, 1, 4), 4);
        check.due("1 1 2 4 8: 16 together", x.satFor(0, 0, 5, 16, 1), 31);
        check.due("places 2, 3, 4: 14", x.satFor(0, 2, 3, 14, 1), 7);
        check.due("onto itself, backward", x.copy(0, 1, 0, 0, 4), 4);
        check.due("1 2 4 8 8: 23 together", x.satFor(0, 0, 5, 23, 1), 31);
        x.row(1, 1, 3);
        x.row(2, 2, 3);
        check.due("to another", x.copy(0, 2, 1, 0, 3), 3);
        check.due("4 8 8", x.satFor(1, 0, 3, 20, 1), 7);
        check.due("none, at the ends", x.copy(0, 5, 1, 3, 0), 0);
        check.due("two lanes", x.copy(0, 0, 2, 0, 1), STORE);
        check.due("STORE ahead of PLACE", x.copy(0, -1, 2, 0, 1), STORE);
        check.due("NULL ahead of STORE", x.copy(0, 0, 3, 0, 1), NULL);
        check.due("NULL of the first", x.copy(3, 9, 0, 0, 1), NULL);
        check.due("i below 0", x.copy(0, -1, 1, 0, 1), PLACE);
        check.due("j below 0", x.copy(0, 0, 1, -1, 1), PLACE);
        check.due("n below 0", x.copy(0, 0, 1, 0, -1), PLACE);
        check.due("beyond the first", x.copy(0, 4, 1, 0, 2), PLACE);
        check.due("beyond the second", x.copy(0, 0, 1, 0, 4), PLACE);
        check.due("none, beyond", x.copy(0, 6, 1, 0, 0), PLACE);
        check.due("far beyond", x.copy(0, Integer.MAX_VALUE, 1, 0, Integer.MAX_VALUE), PLACE);
        check.due("far below", x.copy(0, 0, 1, Integer.MIN_VALUE, Integer.MIN_VALUE), PLACE);
        check.due("rows a", x.copy(8, 0, 1, 0, 1), BAD);
        check.due("rows b", x.copy(0, 0, -1, 0, 1), BAD);
        check.due("BAD ahead of NULL", x.copy(3, 0, 8, 0, 1), BAD);
    }

    private static void rowsAreDropped() {
        SpentWeeks x = new SpentWeeks();
        x.row(4, 2, 9);
        check.due("drop(4)", x.drop(4), 9);
        check.due("drop(4) again", x.drop(4), NULL);
        check.due("count(0)", x.count(0), 0);
        check.due("drop(8)", x.drop(8), BAD);
        check.due("drop(-1)", x.drop(-1), BAD);
        x.row(4, 0, 0);
        check.due("drop of no items", x.drop(4), 0);
    }

    private static void statusKeepsFindings() {
        SpentWeeks x = Check.with("y2,5;c0,10,50;");
        check.due("status at first", x.status(), 0);
        x.set(0, 0, 0);
        check.due("NULL", x.status(), 1);
        x.set(8, 0, 0);
        check.due("BAD leaves it", x.status(), 1);
        x.sentence(0, 5);
        x.count(0);
        x.market(3, 0);
        check.due("calls without a row leave it", x.status(), 1);
        x.row(0, 0, 1);
        check.due("none", x.status(), 0);
        x.set(0, 1, 0);
        check.due("PLACE", x.status(), 2);
        x.as(0, 2);
        check.due("KIND", x.status(), 3);
        x.as(0, 1);
        check.due("as without one", x.status(), 0);
        x.row(0, 0, -1);
        check.due("SIZE", x.status(), 4);
        x.row(1, 1, 1);
        x.copy(0, 0, 1, 0, 1);
        check.due("STORE", x.status(), 5);
        check.due("an item that is BAD", x.cover(0, 0, 0, 1), BAD);
        check.due("it leaves the finding", x.status(), 5);
        x.wrong(0, 0, -1);
        check.due("wrong without one", x.status(), 0);
        x.ring(0, 0, 1, 0);
        check.due("ring: PLACE", x.status(), 2);
        check.due("satFor without one", x.satFor(0, 1, 0, 1, 1), SpentWeeks.NONE);
        check.due("NONE is no finding", x.status(), 0);
        x.bestOrder(0, 5, 0, 1, 0);
        check.due("bestOrder: NULL", x.status(), 1);
        x.set(1, 0, 7);
        x.drop(5);
        x.cover(0, 1, 0, 1);
        check.due("cover without one", x.status(), 0);
        SpentWeeks none = new SpentWeeks();
        none.drop(0);
        none.wrong(0, 0, -1);
        none.as(0, 0);
        check.due("STATE, BAD leave it", none.status(), 1);
    }
}

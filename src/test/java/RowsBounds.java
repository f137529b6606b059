/** ROWS at their bounds: promises 2 to 5. */
final class RowsBounds {
    private static final int BAD = SpentWeeks.BAD, NULL = -1000011, PLACE = -1000012, SIZE = -1000014, STORE = -1000015;

    private final Doc doc;

    RowsBounds(Doc doc) {
        this.doc = doc;
    }

    void hold() {
        rowsAreMissingAtFirst();
        itemsAreNoneAtFirst();
        rowsAreMade();
        itemsAreSet();
        itemsAreCopied();
        copiesHaveEnds();
        rowsAreDropped();
    }

    private void rowsAreMissingAtFirst() {
        doc.terms();
        doc.says("ROWS 0 .. 7 are missing (at first), or have a LANE (0 bytes, 1 shorts, 2 ints) and 0 to 40 ITEMS,"
            + " 0 at first.");
        SpentWeeks x = Tale.reader();
        for (int row = 0; row < 8; row++) {
            doc.due("drop " + row, x.drop(row), NULL);
            doc.due("set " + row, x.set(row, 0, 1), NULL);
            doc.due("copy " + row, x.copy(row, 0, row, 0, 0), NULL);
            doc.due("cover " + row, x.cover(0, row, 0, 1), NULL);
            doc.due("none by that", x.count(0), 0);
        }
        for (int row = 0; row < 8; row++) {
            doc.due("row " + row, x.row(row, row % 3, 5 * row), 5 * row);
            doc.due("rows there", x.count(0), row + 1);
        }
        for (int row = 0; row < 8; row++) {
            doc.due("each has its own ITEMS", x.drop(row), 5 * row);
        }
    }

    private void itemsAreNoneAtFirst() {
        SpentWeeks x = Tale.reader();
        for (int lane = 0; lane < 3; lane++) {
            x.row(lane, lane, 40);
            for (int i = 0; i < 40; i++) {
                doc.due("lane " + lane + " item " + i, Tale.item(x, lane, i), 0);
            }
            doc.due("lane " + lane + " has no item 40", x.set(lane, 40, 1), PLACE);
        }
    }

    private void rowsAreMade() {
        doc.promise(2);
        doc.says("A ROW of a LANE with n ITEMS, in place of what is there: n.");
        SpentWeeks x = Tale.reader();
        doc.due("none of them", x.row(0, 0, 0), 0);
        doc.due("none has no place", x.set(0, 0, 0), PLACE);
        doc.due("one of them", x.row(0, 0, 1), 1);
        doc.due("the one place", x.set(0, 0, 9), 9);
        doc.due("no second one", x.set(0, 1, 9), PLACE);
        doc.due("all of them, of ints", x.row(0, 2, 40), 40);
        doc.due("what was there is gone", Tale.item(x, 0, 0), 0);
        doc.due("the last place", x.set(0, 39, 70000), 70000);
        doc.due("fewer", x.row(0, 1, 39), 39);
        doc.due("no last place any more", x.set(0, 39, 1), PLACE);
        doc.due("the LANE is another", x.set(0, 38, 70000), 4464);
        doc.due("as many as ahead", x.row(0, 1, 39), 39);
        doc.due("0 again", Tale.item(x, 0, 38), 0);
        doc.due("back to all", x.row(0, 1, 40), 40);
        doc.due("0 where an int stood", Tale.item(x, 0, 39), 0);
        doc.due("one ROW all the time", x.count(0), 1);
        doc.says("BAD: ROW, LANE, n above 40; SIZE.");
        doc.due("ROW 7", x.row(7, 0, 1), 1);
        doc.due("ROW 8", x.row(8, 0, 1), BAD);
        doc.due("ROW 0", x.row(0, 0, 1), 1);
        doc.due("ROW -1", x.row(-1, 0, 1), BAD);
        doc.due("LANE 2", x.row(0, 2, 1), 1);
        doc.due("LANE 3", x.row(0, 3, 1), BAD);
        doc.due("LANE 0", x.row(0, 0, 1), 1);
        doc.due("LANE -1", x.row(0, -1, 1), BAD);
        doc.due("n 40", x.row(0, 0, 40), 40);
        doc.due("n 41", x.row(0, 0, 41), BAD);
        doc.due("n 0", x.row(0, 0, 0), 0);
        doc.due("n -1", x.row(0, 0, -1), SIZE);
    }

    private void itemsAreSet() {
        doc.promise(3);
        doc.says("ITEM i becomes v, its lowest bits, as many as the LANE has: what it is then.");
        SpentWeeks x = Tale.reader();
        int[] bytes = {127, 127, 128, -128, 255, -1, 256, 0, 257, 1, -128, -128, -129, 127, Integer.MAX_VALUE, -1,
            Integer.MIN_VALUE, 0};
        int[] shorts = {32767, 32767, 32768, -32768, 65535, -1, 65536, 0, 65541, 5, -32768, -32768, -32769, 32767,
            Integer.MAX_VALUE, -1, Integer.MIN_VALUE, 0};
        int[] ints = {Integer.MAX_VALUE, Integer.MAX_VALUE, Integer.MIN_VALUE, Integer.MIN_VALUE, -1, -1, 0, 0};
        becomes(x, 0, bytes);
        becomes(x, 1, shorts);
        becomes(x, 2, ints);
        x.row(3, 0, 3);
        x.set(3, 1, 256 + 77);
        doc.due("it is kept so", Tale.item(x, 3, 1), 77);
        doc.due("the one ahead stays", Tale.item(x, 3, 0), 0);
        doc.due("the one behind stays", Tale.item(x, 3, 2), 0);
        doc.says("BAD: ROW; NULL; PLACE.");
        doc.due("ITEM 0", x.set(3, 0, 1), 1);
        doc.due("ITEM -1", x.set(3, -1, 1), PLACE);
        doc.due("the last ITEM", x.set(3, 2, 1), 1);
        doc.due("one more", x.set(3, 3, 1), PLACE);
        doc.due("no ITEM at all", x.row(4, 2, 0) + x.set(4, 0, 1), PLACE);
        doc.due("NULL ahead of PLACE", x.set(7, -1, 1), NULL);
        doc.due("ROW 8, ahead of both", x.set(8, -1, 1), BAD);
        doc.due("ROW -1", x.set(-1, 0, 1), BAD);
        doc.due("ROW 7", x.row(7, 0, 1) + x.set(7, 0, 1), 2);
    }

    private void becomes(SpentWeeks x, int lane, int... pairs) {
        x.row(lane, lane, 1);
        for (int k = 0; k < pairs.length; k += 2) {
            doc.due("lane " + lane + ", " + pairs[k], x.set(lane, 0, pairs[k]), pairs[k + 1]);
        }
    }

    private void items(String name, SpentWeeks x, int row, int... wants) {
        for (int k = 0; k < wants.length; k++) {
            doc.due(name + ", item " + k, Tale.item(x, row, k), wants[k]);
        }
    }

    private void itemsAreCopied() {
        doc.promise(4);
        doc.says("n ITEMS of a from i on come to b from j on, as they were ahead: n.");
        for (int lane = 0; lane < 3; lane++) {
            SpentWeeks x = Tale.reader();
            Check.row(x, 0, lane, 1, 2, 3, 4, 5);
            Check.row(x, 1, lane, 11, 12, 13, 14);
            doc.due("two of them", x.copy(0, 3, 1, 1, 2), 2);
            items("b", x, 1, 11, 4, 5, 14);
            items("a stays", x, 0, 1, 2, 3, 4, 5);
            doc.due("onto itself, up", x.copy(0, 0, 0, 1, 4), 4);
            items("as they were ahead", x, 0, 1, 1, 2, 3, 4);
            doc.due("onto itself, down", x.copy(0, 2, 0, 0, 3), 3);
            items("as they were ahead", x, 0, 2, 3, 4, 3, 4);
            doc.due("onto its own place", x.copy(0, 0, 0, 0, 5), 5);
            items("alike", x, 0, 2, 3, 4, 3, 4);
        }
        SpentWeeks x = Tale.reader();
        Check.row(x, 0, 1, -5, 1000, 3);
        x.row(1, 1, 3);
        doc.due("all", x.copy(0, 0, 1, 0, 3), 3);
        items("below 0 and above 999, too", x, 1, BAD, 1000, 3);
    }

    private void copiesHaveEnds() {
        doc.says("BAD: ROWS; NULL; STORE; PLACE (i, j, n below 0, or beyond an end).");
        SpentWeeks x = Tale.reader();
        x.row(0, 1, 5);
        x.row(1, 1, 40);
        x.row(2, 1, 0);
        x.row(3, 0, 5);
        doc.due("none, at both ends", x.copy(0, 5, 1, 40, 0), 0);
        doc.due("none, of none", x.copy(2, 0, 2, 0, 0), 0);
        doc.due("none, behind a's end", x.copy(0, 6, 1, 0, 0), PLACE);
        doc.due("none, behind b's end", x.copy(0, 0, 1, 41, 0), PLACE);
        doc.due("one, of none", x.copy(2, 0, 1, 0, 1), PLACE);
        doc.due("one, to none", x.copy(1, 0, 2, 0, 1), PLACE);
        doc.due("up to a's end", x.copy(0, 2, 1, 0, 3), 3);
        doc.due("beyond a's end", x.copy(0, 2, 1, 0, 4), PLACE);
        doc.due("up to b's end", x.copy(1, 0, 0, 3, 2), 2);
        doc.due("beyond b's end", x.copy(1, 0, 0, 3, 3), PLACE);
        doc.due("all 40", x.copy(1, 0, 1, 0, 40), 40);
        doc.due("41", x.copy(1, 0, 1, 0, 41), PLACE);
        doc.due("i -1", x.copy(0, -1, 1, 0, 1), PLACE);
        doc.due("j -1", x.copy(0, 0, 1, -1, 1), PLACE);
        doc.due("n -1", x.copy(0, 1, 1, 1, -1), PLACE);
        doc.due("i and n together more than an int", x.copy(0, Integer.MAX_VALUE, 1, 0, 1), PLACE);
        doc.due("j and n together more than an int", x.copy(0, 0, 1, Integer.MAX_VALUE, 1), PLACE);
        doc.due("n more than an int with i", x.copy(0, 1, 1, 0, Integer.MAX_VALUE), PLACE);
        doc.due("the least of all", x.copy(0, Integer.MIN_VALUE, 1, Integer.MIN_VALUE, Integer.MIN_VALUE), PLACE);
        doc.due("two LANES", x.copy(0, 0, 3, 0, 1), STORE);
        doc.due("two LANES, of no ITEMS", x.copy(0, 0, 3, 0, 0), STORE);
        doc.due("STORE ahead of PLACE", x.copy(0, -1, 3, 9, -1), STORE);
        doc.due("a is missing", x.copy(7, 0, 0, 0, 0), NULL);
        doc.due("b is missing", x.copy(0, 0, 7, 0, 0), NULL);
        doc.due("NULL ahead of PLACE", x.copy(0, -1, 7, 0, 0), NULL);
        doc.due("BAD ahead of NULL: a", x.copy(8, 0, 7, 0, 0), BAD);
        doc.due("BAD ahead of NULL: b", x.copy(7, 0, 8, 0, 0), BAD);
        doc.due("a -1", x.copy(-1, 0, 0, 0, 0), BAD);
        doc.due("b -1", x.copy(0, 0, -1, 0, 0), BAD);
        doc.due("7 to 7", x.row(7, 2, 2) + x.copy(7, 0, 7, 1, 1), 3);
    }

    private void rowsAreDropped() {
        doc.promise(5);
        doc.says("A ROW is missing from now on: how many ITEMS it had.");
        SpentWeeks x = Tale.reader();
        x.row(0, 2, 0);
        x.row(7, 0, 40);
        doc.due("none", x.drop(0), 0);
        doc.due("40", x.drop(7), 40);
        doc.due("there is none then", x.count(0), 0);
        doc.due("missing: set", x.set(7, 0, 1), NULL);
        doc.due("missing: copy", x.copy(7, 0, 7, 0, 0), NULL);
        doc.due("missing: satFor", x.satFor(7, 0, 0, 0, 0), NULL);
        x.row(7, 0, 40);
        x.set(7, 3, 5);
        x.drop(7);
        doc.due("made anew", x.row(7, 0, 4), 4);
        doc.due("0 again", Tale.item(x, 7, 3), 0);
        doc.says("BAD; NULL.");
        doc.due("twice", x.drop(7) + x.drop(7), 4 + NULL);
        doc.due("ROW 8", x.drop(8), BAD);
        doc.due("ROW -1", x.drop(-1), BAD);
    }
}

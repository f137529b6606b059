/** All that can be seen of an object, as a text. */
final class Tale {
    private static final String PLAIN_COUNTY = "y1,1;c0,0,0;";

    private Tale() {
    }

    /** What can be seen by calls that change nothing: counts, PEOPLE, LOTS, THE TRACE, the FAULT. */
    static String now(SpentWeeks x) {
        StringBuilder text = new StringBuilder();
        for (int what = 0; what < 7; what++) {
            text.append(x.count(what)).append(' ');
        }
        for (int one = 0; one < x.count(1); one++) {
            text.append("| ").append(x.kind(one)).append(' ');
            for (int what = 0; what < 7; what++) {
                text.append(x.person(one, what)).append(' ');
            }
            for (int lot = 0; lot < x.person(one, 6); lot++) {
                text.append(x.lot(one, lot, 0)).append('@').append(x.lot(one, lot, 1)).append(' ');
            }
        }
        // how many MONTHS there can be, and the law
        text.append("| ").append(x.lapsed(0, 60)).append(' ').append(x.triedFirst(60, 7, 1)).append(" | ");
        for (int k = 0; k < 17; k++) {
            text.append(x.trace(k)).append(' ');
        }
        return text.append(x.fault()).toString();
    }

    /**
     * What stands behind that, too: ACTS that can be undone, images, the bytes on the tape, ITEMS and LANES. The
     * object is used up by it.
     */
    static String whole(SpentWeeks x) {
        StringBuilder text = new StringBuilder(now(x));
        for (int k = 0; k < 30; k++) {
            int left = x.undo();
            text.append("\nundo ").append(left).append(' ').append(left < 0 ? "" : now(x));
        }
        for (int k = 0; k < 2; k++) {
            text.append("\nimage ").append(x.restore(k)).append(' ').append(now(x));
        }
        x.feed(';');
        text.append("\ntape ").append(x.county()).append(' ').append(now(x));
        Check.county(x, PLAIN_COUNTY);
        for (int row = 0; row < 8; row++) {
            text.append("\nrow ").append(row).append(": ").append(items(x, row));
            for (int other = 0; other < 8; other++) {
                text.append(' ').append(x.copy(row, 0, other, 0, 0));
            }
        }
        return text.toString();
    }

    private static String items(SpentWeeks x, int row) {
        StringBuilder text = new StringBuilder();
        for (int i = 0; i < 40 && x.wrong(row, i, -1) != -1000012; i++) {
            text.append(item(x, row, i)).append(' ');
        }
        return text.toString();
    }

    /**
     * An ITEM, by what covers a DEED of it; 0 by what nobody has. The first of the PEOPLE must be the only one, a
     * citizen with nothing. BAD: it is below 0 or above 9999; 1000: it is 1000 to 9999.
     */
    static int item(SpentWeeks x, int row, int i) {
        int covered = x.cover(0, row, i, 1);
        if (covered != SpentWeeks.BAD) {
            return covered;
        }
        int told = x.wrong(row, i, -1);
        return told == 1 ? 1000 : told;
    }

    /** An object in which a reader of ITEMS can be sure of a plain COUNTY. */
    static SpentWeeks reader() {
        return Check.with(PLAIN_COUNTY);
    }
}

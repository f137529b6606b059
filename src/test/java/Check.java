/** What the project's tests share: each answer is compared with the one that is due. */
final class Check {
    private int wrong = 0;
    private int all = 0;

    void due(String call, long got, long want) {
        all++;
        if (got != want) {
            wrong++;
            System.out.println(call + " answered " + got + ", due is " + want);
        }
    }

    /** All bytes of a text come to the tape, which is empty ahead. */
    static void feed(SpentWeeks x, String text) {
        for (int k = 0; k < text.length(); k++) {
            x.feed(text.charAt(k));
        }
    }

    static int county(SpentWeeks x, String text) {
        feed(x, text);
        return x.county();
    }

    static SpentWeeks with(String text) {
        SpentWeeks x = new SpentWeeks();
        int people = county(x, text);
        if (people < 0) {
            throw new IllegalStateException("a test's county is not read: " + text + " " + people);
        }
        return x;
    }

    /** A ROW of a LANE with these ITEMS. */
    static void row(SpentWeeks x, int row, int lane, int... items) {
        x.row(row, lane, items.length);
        for (int k = 0; k < items.length; k++) {
            x.set(row, k, items[k]);
        }
    }

    /** So many DAYS come to one, by SENTENCES of 999 and a last one. */
    static void give(SpentWeeks x, int one, int days) {
        for (int left = days; left > 0; left -= 999) {
            x.sentence(one, Math.min(999, left));
        }
    }

    /** One who has no DAYS comes to OWE so many more, by DEEDS of 999 and a last one. */
    static void owe(SpentWeeks x, int one, int days) {
        for (int left = days; left > 0; left -= 999) {
            x.deed(one, Math.min(999, left));
        }
    }

    void end() {
        System.out.println(wrong == 0 ? all + " answers are as due" : wrong + " of " + all + " answers are not as due");
        if (wrong != 0) {
            System.exit(1);
        }
    }
}

/** THE TAPE, COUNTIES and FAULTS at their bounds: promises 6 to 8. */
final class TextBounds {
    private static final int BAD = SpentWeeks.BAD, STATE = SpentWeeks.STATE, FULL = SpentWeeks.FULL;
    private static final String LAW = "y1,1;", SIX = "c0,0,0;s0,0,0;h0,0,0;t0,0,0;p0,0,0;c0,0,0;";

    private final Doc doc;

    TextBounds(Doc doc) {
        this.doc = doc;
    }

    void hold() {
        theTapeHasAnEnd();
        tokensAreThese();
        countiesAreThese();
        lawsHaveBounds();
        peopleHaveBounds();
        aCountyStandsInPlace();
        faultsAreTheFirst();
        everyByteEverywhere();
        bytesAreFed();
        tapesAreRead();
        theLatestFaultIsTold();
    }

    private void reads(String text, int people) {
        SpentWeeks x = new SpentWeeks();
        doc.due(text, Check.county(x, text), people);
        doc.due(text + ": no fault", x.fault(), 0);
        doc.due(text + ": people", x.count(1), people);
        doc.due(text + ": there is a COUNTY", x.image(0), 1);
        doc.due(text + ": the tape is empty", x.count(6), 0);
    }

    private void fails(String text, int place, int fault) {
        SpentWeeks x = new SpentWeeks();
        doc.due(text, Check.county(x, text), -1000100 - place);
        doc.due(text + ": its number", x.fault(), fault);
        doc.due(text + ": no COUNTY", x.image(0), STATE);
        doc.due(text + ": the tape is empty", x.count(6), 0);
    }

    private void theTapeHasAnEnd() {
        doc.terms();
        doc.says("TEXTS: THE TAPE has at most 120 bytes, that come one by one;");
        SpentWeeks x = new SpentWeeks();
        for (int k = 1; k <= 120; k++) {
            doc.due("byte " + k, x.feed('y'), k);
        }
        doc.due("byte 121", x.feed('y'), FULL);
        doc.due("there are", x.count(6), 120);
        String text = "y01,01;c00,00,00;c00,00,00;c00,00,00;c00,00,00;c00,00,00;c00,00,00;";
        StringBuilder more = new StringBuilder(text);
        while (more.length() < 120) {
            more.append('c');
        }
        SpentWeeks full = new SpentWeeks();
        doc.due("a full tape is read up to the FAULT", Check.county(full, more.toString()), -1000100 - text.length());
        doc.due("a person more", full.fault(), 3);
        doc.due("the bytes behind the FAULT are gone, too", full.count(6), 0);
    }

    private void tokensAreThese() {
        doc.says("TOKENS: letters a to z (each by itself), NUMBERS (figures, 2 at most), SIGNS , and ; nothing else.");
        reads("y1,1;c1,1,1;", 1);
        reads("y01,01;c01,01,01;", 1);
        reads("y10,10;c9,10,10;", 1);
        fails("y001,1;", 1, 1);
        fails("y1,001;", 3, 1);
        fails(LAW + "c001,1,1;", 6, 1);
        fails(LAW + "c1,001,1;", 8, 1);
        fails(LAW + "c1,1,001;", 10, 1);
        fails("yy1,1;", 1, 1);
        fails(LAW + "cc1,1,1;", 6, 1);
        fails("y 1,1;", 1, 1);
        fails("y1, 1;", 3, 1);
        fails("y1,1; c1,1,1;", 5, 1);
        fails("y1,1;\n", 5, 1);
        fails("y+1,1;", 1, 1);
        fails("y-1,1;", 1, 1);
        fails("y1.1;", 2, 1);
        fails("y1,1:", 4, 1);
        fails("Y1,1;", 0, 1);
        fails(LAW + "C1,1,1;", 5, 1);
        fails(LAW + (char) 0, 5, 1);
        fails(LAW + (char) 255, 5, 1);
        fails(LAW + (char) ('c' + 128), 5, 1);
    }

    private void countiesAreThese() {
        doc.says("county: law { person }.");
        reads(LAW, 0);
        reads(LAW + "c0,0,0;", 1);
        reads(LAW + SIX, 6);
        fails("", 0, 1);
        fails("c0,0,0;", 0, 1);
        fails("c0,0,0;" + LAW, 0, 1);
        fails(LAW + LAW, 5, 1);
        fails(LAW + "c0,0,0;" + LAW, 12, 1);
    }

    private void lawsHaveBounds() {
        doc.says("law: y TERM , WEIGHT ; (1 to 24; 1 to 30).");
        fails("y0,1;", 1, 2);
        fails("y00,1;", 1, 2);
        reads("y1,1;", 0);
        reads("y24,1;", 0);
        fails("y25,1;", 1, 2);
        fails("y99,1;", 1, 2);
        fails("y1,0;", 3, 2);
        fails("y1,00;", 3, 2);
        reads("y1,30;", 0);
        fails("y1,31;", 3, 2);
        fails("y1,99;", 3, 2);
        SpentWeeks x = Check.with("y24,30;c9,0,0;");
        x.sentence(0, 9);
        doc.due("TERM is 24: not in 24", x.lapsed(0, 24), 0);
        doc.due("TERM is 24: in 25", x.lapsed(0, 25), 9);
        x.pardon(0);
        x.deed(0, 9);
        doc.due("WEIGHT is 30: a DEED of 30", x.month(170) + 100 * x.person(0, 1), 3001);
        SpentWeeks least = Check.with("y1,1;c9,0,0;");
        least.sentence(0, 9);
        doc.due("TERM is 1: not in 1", least.lapsed(0, 1), 0);
        doc.due("TERM is 1: in 2", least.lapsed(0, 2), 9);
        doc.due("WEIGHT is 1: a DEED of 1", least.month(170) + 100 * least.person(0, 0), 801);
    }

    private void peopleHaveBounds() {
        doc.says("person: SORT LEAN , WORTH , CASH ; (SORT: c a citizen, s a saint, h an heir, t a thief, p one who was"
            + " pardoned; 0 to 9; 0 to 99; 0 to 99; PEOPLE 0 .. 5, 6 at most).");
        String sorts = "cshtp";
        for (char letter = 'a'; letter <= 'z'; letter++) {
            String text = LAW + letter + "0,0,0;";
            int kind = sorts.indexOf(letter) + 1;
            if (kind > 0) {
                reads(text, 1);
                doc.due("kind of " + letter, Check.with(text).kind(0), kind);
            } else {
                fails(text, 5, 1);
            }
        }
        reads(LAW + "c9,0,0;", 1);
        reads(LAW + "c09,0,0;", 1);
        fails(LAW + "c10,0,0;", 6, 2);
        fails(LAW + "c99,0,0;", 6, 2);
        reads(LAW + "c0,99,0;", 1);
        fails(LAW + "c0,100,0;", 8, 1);
        reads(LAW + "c0,0,99;", 1);
        fails(LAW + "c0,0,100;", 10, 1);
        SpentWeeks x = Check.with(LAW + "c9,99,99;" + "h0,0,0;" + "t1,2,3;s04,05,06;p7,80,90;c8,9,10;");
        int[][] wants = {{9, 99, 99}, {0, 0, 0}, {1, 2, 3}, {4, 5, 6}, {7, 80, 90}, {8, 9, 10}};
        for (int one = 0; one < 6; one++) {
            doc.due("LEAN of " + one, x.person(one, 4), wants[one][0]);
            doc.due("WORTH of " + one, x.person(one, 5), wants[one][1]);
            doc.due("CASH of " + one, x.person(one, 2), wants[one][2]);
        }
        doc.due("no one has number 6", x.kind(6), BAD);
        reads(LAW + SIX, 6);
        fails(LAW + SIX + "c0,0,0;", 47, 3);
    }

    private void aCountyStandsInPlace() {
        doc.says("A COUNTY that is read stands in place of the one before (none at first): MONTH 0; nobody has LOTS,"
            + " nobody OWES; no ACT can be undone.");
        SpentWeeks x = new SpentWeeks();
        doc.due("none at first", x.image(0), STATE);
        Check.county(x, "y3,20;" + SIX);
        for (int one = 0; one < 6; one++) {
            x.deed(one, 4);
            x.sentence(one, 7);
        }
        x.month(1);
        // what was only foretold must not come into what is read, either
        x.ahead(0, 20, 5, 1);
        doc.due("fewer than before", Check.county(x, "y5,6;t9,8,7;p6,5,4;"), 2);
        String fresh = Tale.now(Check.with("y5,6;t9,8,7;p6,5,4;"));
        doc.same("as if it were the first", Tale.now(x), fresh);
        doc.due("no ACT", x.undo(), STATE);
        doc.due("nobody more", x.kind(2), BAD);
        x.sentence(1, 30);
        x.deed(0, 30);
        x.ahead(0, 1, 5, 1);
        doc.due("more than before", Check.county(x, "y3,20;" + SIX), 6);
        doc.same("nothing comes back", Tale.now(x), Tale.now(Check.with("y3,20;" + SIX)));
        doc.due("nobody at all", Check.county(x, LAW), 0);
        doc.due("a COUNTY, though", x.month(1), 0);
    }

    private void faultsAreTheFirst() {
        doc.says("FAULTS, the first TOKEN that has one (its first byte), of one TOKEN the least:");
        fails("y25,31;c10,100,100;", 1, 2);
        fails("y24,31;c10,100,100;", 4, 2);
        fails("y24,30;c10,100,100;", 8, 2);
        fails("y24,30;c9,100,100;", 10, 1);
        fails("y99;", 1, 2);
        fails("y25", 1, 2);
        doc.says("1 it cannot stand there, or is none (a run of three figures, at its first; the end: how many bytes"
            + " there are);");
        String text = "y12,30;c9,98,97;";
        int[] ends = {0, 1, 2, 3, 4, 5, 6, 8, 9, 10, 11, 12, 13, 14, 15};
        for (int end : ends) {
            fails(text.substring(0, end), end, 1);
        }
        reads(text.substring(0, 7), 0);
        reads(text, 1);
        fails("123", 0, 1);
        fails("y123", 1, 1);
        fails("y1234567", 1, 1);
        fails("y000,1;", 1, 1);
        fails("y999,1;", 1, 1);
        fails(LAW + "123", 5, 1);
        fails(LAW + "12", 5, 1);
        fails("y1,1234;", 3, 1);
        doc.says("2 a NUMBER that is not as told;");
        fails("y25,1;", 1, 2);
        fails("y1,31;", 3, 2);
        fails(LAW + "c0,0,0;c10,0,0;", 13, 2);
        fails("1y", 0, 1);
        doc.says("3 a person more than there is room for (its letter).");
        fails(LAW + SIX + "c0,0,0;", 47, 3);
        fails(LAW + SIX + "c", 47, 3);
        fails(LAW + SIX + "pp", 47, 3);
        fails(LAW + SIX + "s99,", 47, 3);
        fails(LAW + SIX + "y", 47, 1);
        fails(LAW + SIX + "1", 47, 1);
        fails(LAW + SIX + ",", 47, 1);
        fails("y25,1;" + SIX + "c0,0,0;", 1, 2);
    }

    /** Each byte at each place of a text, in place of another or between two; each text without one of its bytes. */
    private void everyByteEverywhere() {
        String text = "y12,30;c9,99,7;t00,0,10;";
        SpentWeeks x = new SpentWeeks();
        for (int at = 0; at <= text.length(); at++) {
            String ahead = text.substring(0, at);
            alike(x, ahead);
            for (int letter = 0; letter < 256; letter++) {
                alike(x, ahead + (char) letter + text.substring(at));
                if (at < text.length()) {
                    alike(x, ahead + (char) letter + text.substring(at + 1));
                }
            }
            if (at < text.length()) {
                alike(x, ahead + text.substring(at + 1));
            }
        }
        for (int letter = 0; letter < 256; letter++) {
            alike(x, LAW + SIX + (char) letter + "1,1,1;");
        }
    }

    private void alike(SpentWeeks x, String text) {
        Reading want = new Reading(text);
        int fault = x.fault();
        doc.due(text, Check.county(x, text), want.answer);
        doc.due(text + ": its number", x.fault(), want.fault == 0 ? fault : want.fault);
    }

    private void bytesAreFed() {
        doc.promise(6);
        doc.says("A byte (0 to 255) comes behind the tape: how many it has.");
        SpentWeeks x = new SpentWeeks();
        doc.due("0", x.feed(0), 1);
        doc.due("255", x.feed(255), 2);
        for (int k = 3; k <= 120; k++) {
            doc.due("byte " + k, x.feed(k), k);
        }
        doc.says("BAD; FULL.");
        doc.due("-1", new SpentWeeks().feed(-1), BAD);
        doc.due("256", new SpentWeeks().feed(256), BAD);
        doc.due("the 121st", x.feed(0), FULL);
        doc.due("BAD ahead of FULL", x.feed(256), BAD);
        doc.due("BAD ahead of FULL", x.feed(-1), BAD);
        doc.due("120 stand", x.count(6), 120);
        x.county();
        doc.due("room again", x.feed(7), 1);
    }

    private void tapesAreRead() {
        doc.promise(7);
        doc.says("The tape, empty then, is read: how many PEOPLE there are.");
        SpentWeeks x = new SpentWeeks();
        doc.due("none", Check.county(x, LAW), 0);
        doc.due("empty then", x.count(6), 0);
        doc.due("an empty one", x.county(), -1000100);
        doc.due("six", Check.county(x, LAW + SIX), 6);
        doc.due("empty then", x.count(6), 0);
        doc.says("-1000100 less the place of a FAULT: all stays.");
        x.sentence(0, 30);
        x.deed(1, 4);
        x.image(1);
        x.ask(2, 1);
        x.row(3, 1, 4);
        String ahead = Tale.now(x).replaceAll(" \\d$", "");
        doc.due("a FAULT at the end", Check.county(x, "y2,2;c1,1,1;t2,2,2"), -1000118);
        doc.same("all stays, but for the FAULT", Tale.now(x).replaceAll(" \\d$", ""), ahead);
        doc.due("empty then, too", x.count(6), 0);
        doc.due("the last ACT can be undone", x.undo(), 1);
        doc.due("the IMAGE is there", x.restore(1), 1);
        doc.due("with what it kept", x.person(1, 1), 4);
        doc.due("a FAULT at 0", Check.county(x, "c"), -1000100);
    }

    private void theLatestFaultIsTold() {
        doc.promise(8);
        doc.says("The number of the latest FAULT; 0 before one.");
        SpentWeeks x = new SpentWeeks();
        doc.due("none", x.fault(), 0);
        Check.county(x, LAW);
        doc.due("none yet", x.fault(), 0);
        Check.county(x, LAW + SIX + "c");
        doc.due("3", x.fault(), 3);
        Check.county(x, "y25");
        doc.due("2", x.fault(), 2);
        Check.county(x, LAW);
        doc.due("2 still", x.fault(), 2);
        x.county();
        doc.due("1", x.fault(), 1);
    }
}

/** What a ROW tells, at its bounds: RING, FALSE, SAT FOR, promises 26 to 28. */
final class ToldBounds {
    private static final int NONE = SpentWeeks.NONE, BAD = SpentWeeks.BAD, STATE = SpentWeeks.STATE;
    private static final int NULL = -1000011, PLACE = -1000012;

    private final Doc doc;

    ToldBounds(Doc doc) {
        this.doc = doc;
    }

    void hold() {
        salesAreTold();
        fewerIsLess();
        ringHasBounds();
        salesThatCannotBeAskedFor();
        verdictsAreTold();
        wrongHasBounds();
        weightsAreTold();
        satForHasBounds();
        setsAreBits();
    }

    private void salesAreTold() {
        doc.terms();
        doc.says("RING: a row tells SALES, four ITEMS each (seller, buyer, DAYS, CASH), done one after another, as long as they"
            + " can be: how many can be;");
        SpentWeeks x = Check.with("y9,5;c0,0,0;t0,0,0;h0,0,0;");
        x.sentence(0, 9);
        x.row(0, 2, 36);
        for (int k = 0; k < 9; k++) {
            x.set(0, 4 * k, k % 3);
            x.set(0, 4 * k + 1, (k + 1) % 3);
            x.set(0, 4 * k + 2, 9 - k);
        }
        doc.due("nine, one after another", x.ring(0, 0, 9, 0), 9);
        doc.due("the first", x.ring(0, 0, 1, 0), 1);
        doc.due("the second by itself cannot be", x.ring(0, 4, 1, 0), 0);
        doc.due("none behind it", x.ring(0, 4, 8, 0), 0);
        x.set(0, 34, 4);
        doc.due("the last has 4 by then", x.ring(0, 0, 9, 0), 9);
        x.set(0, 34, 5);
        doc.due("one fewer", x.ring(0, 0, 9, 0), 8);
        x.set(0, 6, 10);
        doc.due("the second cannot be", x.ring(0, 0, 9, 0), 1);
        Check.row(x, 1, 2, 0, 1, 10, 0, 0, 1, 9, 0);
        doc.due("the first cannot be, the second could", x.ring(1, 0, 2, 0), 0);
        Check.give(x, 2, 9990);
        Check.row(x, 1, 2, 0, 2, 9, 0, 2, 0, 1, 0, 0, 2, 2, 0);
        doc.due("the third makes UNSPENT 10000", x.ring(1, 0, 3, 0), 2);
        x.set(1, 10, 1);
        doc.due("9999", x.ring(1, 0, 3, 0), 3);
    }

    private void fewerIsLess() {
        doc.says("PEOPLE (bits) who have less of WORTH times UNSPENT and CASH, together, behind them.");
        SpentWeeks x = Check.with("y9,5;c0,7,0;c0,7,0;c0,0,0;c0,0,0;c0,0,0;c0,99,0;");
        x.sentence(0, 10);
        lose("for what it is WORTH to both", x, 0, 0, 1, 3, 21);
        lose("for one less", x, 1, 0, 1, 3, 20);
        lose("for one more", x, 2, 0, 1, 3, 22);
        lose("to one to whom it is nothing", x, 4, 0, 2, 3, 21);
        lose("for nothing, to one to whom it is more", x, 1, 0, 5, 10, 0);
        lose("for 990 to him", x, 0, 0, 5, 10, 990);
        lose("for 991 to him", x, 32, 0, 5, 10, 991);
        lose("there and back", x, 0, 0, 1, 3, 1, 1, 0, 3, 1);
        lose("there and back, for less", x, 2, 0, 1, 3, 9, 1, 0, 3, 8);
        lose("none can be", x, 0, 0, 1, 11, 0);
        lose("none behind that counts", x, 1, 0, 1, 1, 0, 0, 1, 11, 0, 0, 5, 9, 999);
        lose("all of them", x, 62, 0, 1, 1, 99, 0, 2, 1, 99, 0, 3, 1, 99, 0, 4, 1, 99, 0, 5, 1, 999);
        x.sentence(5, 9);
        lose("each for less than he gave", x, 32 | 1 | 2 | 4, 5, 0, 9, 99, 0, 1, 9, 80, 1, 2, 9, 10);
    }

    private void lose(String name, SpentWeeks x, int want, int... sales) {
        Check.row(x, 4, 2, sales);
        doc.due(name, x.ring(4, 0, sales.length / 4, 1), want);
    }

    private void ringHasBounds() {
        doc.promise(26);
        doc.says("RING, n SALES (1 to 9) of a ROW from i on: how many (what = 0), who has less (1).");
        SpentWeeks x = Check.with("y9,5;c0,7,0;c0,8,0;");
        x.sentence(0, 9);
        x.row(0, 1, 40);
        for (int k = 0; k < 40; k++) {
            x.set(0, k, k % 4 == 1 || k % 4 == 2 ? 1 : 0);
        }
        doc.due("one", x.ring(0, 0, 1, 0), 1);
        doc.due("nine", x.ring(0, 0, 9, 0), 9);
        doc.due("nine, up to the end", x.ring(0, 4, 9, 0), 9);
        doc.due("who has less", x.ring(0, 0, 1, 1), 1);
        doc.says("BAD: ROW, n, what; STATE: no COUNTY (ahead of BAD); NULL; PLACE;");
        doc.due("n 0", x.ring(0, 0, 0, 0), BAD);
        doc.due("n -1", x.ring(0, 0, -1, 0), BAD);
        doc.due("n 10", x.ring(0, 0, 10, 0), BAD);
        doc.due("n by four is 4 of an int", x.ring(0, 0, 1073741825, 0), BAD);
        doc.due("what -1", x.ring(0, 0, 1, -1), BAD);
        doc.due("what 2", x.ring(0, 0, 1, 2), BAD);
        doc.due("ROW -1", x.ring(-1, 0, 1, 0), BAD);
        doc.due("ROW 8", x.ring(8, 0, 1, 0), BAD);
        doc.due("BAD ahead of NULL", x.ring(7, 0, 10, 0), BAD);
        doc.due("NULL ahead of PLACE", x.ring(7, -1, 1, 0), NULL);
        doc.due("i -1", x.ring(0, -1, 1, 0), PLACE);
        doc.due("beyond the end by one", x.ring(0, 5, 9, 0), PLACE);
        doc.due("one, beyond the end by one", x.ring(0, 37, 1, 0), PLACE);
        doc.due("one, up to the end", x.ring(0, 36, 1, 0), 1);
        doc.due("an int's end", x.ring(0, Integer.MAX_VALUE, 9, 0), PLACE);
        doc.due("no COUNTY", new SpentWeeks().ring(0, 0, 1, 0), STATE);
        doc.due("no COUNTY, and all wrong", new SpentWeeks().ring(8, -1, 0, 2), STATE);
    }

    private void salesThatCannotBeAskedFor() {
        doc.says("then BAD: ITEMS by which no SALE can be asked for (as sale() tells).");
        SpentWeeks x = Check.with("y9,5;c0,7,0;c0,8,0;");
        Check.give(x, 0, 1000);
        int[][] taken = {{0, 1, 1, 0}, {0, 1, 999, 999}, {1, 0, 1, 0}};
        int[][] refused = {{-1, 1, 1, 0}, {2, 1, 1, 0}, {0, -1, 1, 0}, {0, 2, 1, 0}, {0, 0, 1, 0}, {0, 1, 0, 0}, {0, 1, -1, 0},
            {0, 1, 1000, 0}, {0, 1, 1, -1}, {0, 1, 1, 1000}};
        for (int[] sale : taken) {
            Check.row(x, 0, 2, sale);
            doc.due("as sale() tells", x.ring(0, 0, 1, 0), sale[0] == 0 ? 1 : 0);
        }
        for (int[] sale : refused) {
            Check.row(x, 0, 2, sale);
            doc.due("sale()", x.sale(sale[0], sale[1], sale[2], sale[3]), BAD);
            doc.due("as sale() tells", x.ring(0, 0, 1, 0), BAD);
            doc.due("who has less, too", x.ring(0, 0, 1, 1), BAD);
            Check.row(x, 0, 2, 1, 0, 999, 0, sale[0], sale[1], sale[2], sale[3]);
            doc.due("behind one that cannot be done", x.ring(0, 0, 2, 0), BAD);
            doc.due("not asked for", x.ring(0, 0, 1, 0), 0);
            doc.due("PLACE ahead of it", x.ring(0, 0, 3, 0), PLACE);
        }
        SpentWeeks nobody = Check.with("y9,5;");
        nobody.row(0, 0, 4);
        doc.due("nobody can", nobody.ring(0, 0, 1, 0), BAD);
    }

    private void verdictsAreTold() {
        doc.terms();
        doc.says("FALSE: a row tells for each of the PEOPLE what he has UNSPENT: those (bits) of whom that is not so; the fewest"
            + " DEEDS (of 1 to WEIGHT) that could make it so for one; NONE.");
        SpentWeeks x = Check.with("y9,30;c0,0,0;t0,0,0;c0,0,0;c0,0,0;c0,0,0;c0,0,0;");
        Check.give(x, 0, 9999);
        Check.give(x, 1, 61);
        Check.row(x, 0, 2, 9999, 61, 0, 0, 0, 0);
        doc.due("all is so", x.wrong(0, 0, -1), 0);
        for (int one = 0; one < 6; one++) {
            doc.due("no DEEDS", x.wrong(0, 0, one), 0);
        }
        int[] told = {61, 60, 32, 31, 30, 2, 1, 0};
        int[] deeds = {0, 1, 1, 1, 2, 2, 2, 3};
        for (int k = 0; k < told.length; k++) {
            x.set(0, 1, told[k]);
            doc.due("61 to " + told[k], x.wrong(0, 0, 1), deeds[k]);
            doc.due("who", x.wrong(0, 0, -1), k == 0 ? 0 : 2);
        }
        x.set(0, 1, 62);
        doc.due("62 of 61", x.wrong(0, 0, 1), NONE);
        doc.due("who", x.wrong(0, 0, -1), 2);
        x.set(0, 0, 0);
        doc.due("9999 to 0", x.wrong(0, 0, 0), 334);
        for (int one = 2; one < 6; one++) {
            x.set(0, one, 9999);
            doc.due("9999 of 0", x.wrong(0, 0, one), NONE);
        }
        doc.due("all are false", x.wrong(0, 0, -1), 63);
        SpentWeeks one = Check.with("y9,1;c0,0,0;");
        Check.give(one, 0, 9999);
        one.row(0, 0, 1);
        doc.due("by DEEDS of 1", one.wrong(0, 0, 0), 9999);
    }

    private void wrongHasBounds() {
        doc.promise(27);
        doc.says("FALSE, as many ITEMS as PEOPLE, of a ROW from i on: who (person = -1), the fewest DEEDS of one (0: it is so);"
            + " NONE.");
        SpentWeeks x = Check.with("y9,1;c0,0,0;c0,0,0;");
        Check.row(x, 0, 2, -1, 0, 3, 10000);
        x.sentence(1, 5);
        doc.due("who", x.wrong(0, 1, -1), 2);
        doc.due("it is so", x.wrong(0, 1, 0), 0);
        doc.due("2 DEEDS", x.wrong(0, 1, 1), 2);
        doc.says("BAD: ROW, PERSON below -1, or none; STATE: no COUNTY (ahead of BAD); NULL; PLACE; then BAD: an ITEM not 0 to"
            + " 9999.");
        doc.due("PERSON -2", x.wrong(0, 1, -2), BAD);
        doc.due("PERSON 2", x.wrong(0, 1, 2), BAD);
        doc.due("ROW -1", x.wrong(-1, 1, 0), BAD);
        doc.due("ROW 8", x.wrong(8, 1, 0), BAD);
        doc.due("BAD ahead of NULL", x.wrong(7, 1, 2), BAD);
        doc.due("NULL ahead of PLACE", x.wrong(7, -1, 0), NULL);
        doc.due("i -1", x.wrong(0, -1, 0), PLACE);
        doc.due("one too few", x.wrong(0, 3, 0), PLACE);
        doc.due("an int's end", x.wrong(0, Integer.MAX_VALUE, 0), PLACE);
        doc.due("ITEMS of -1, 0", x.wrong(0, 0, 1), BAD);
        doc.due("ITEMS of 3, 10000", x.wrong(0, 2, 0), BAD);
        doc.due("ITEMS of 3, 10000", x.wrong(0, 2, -1), BAD);
        x.set(0, 3, 9999);
        doc.due("ITEMS of 3, 9999, up to the end", x.wrong(0, 2, -1), 3);
        doc.due("no COUNTY", new SpentWeeks().wrong(0, 0, -1), STATE);
        doc.due("no COUNTY, and all wrong", new SpentWeeks().wrong(8, 0, -2), STATE);
        SpentWeeks nobody = Check.with("y9,1;");
        Check.row(nobody, 0, 2, -1);
        doc.due("of nobody", nobody.wrong(0, 0, -1), 0);
        doc.due("of nobody, at the end", nobody.wrong(0, 1, -1), 0);
        doc.due("of nobody, behind it", nobody.wrong(0, 2, -1), PLACE);
        doc.due("PERSON 0 is none", nobody.wrong(0, 0, 0), BAD);
        doc.due("a missing ROW", nobody.wrong(1, 0, -1), NULL);
    }

    private void weightsAreTold() {
        doc.terms();
        doc.says("SAT FOR: a row tells weights (16 at most): of all sets of its places those whose weights are n together: how"
            + " many; the least set; NONE.");
        SpentWeeks x = new SpentWeeks();
        x.row(0, 2, 16);
        for (int k = 0; k < 16; k++) {
            x.set(0, k, 1);
        }
        long ways = 1;
        for (int days = 0; days <= 16; days++) {
            doc.due(days + " of 16", x.satFor(0, 0, 16, days, 0), ways);
            doc.due("the first " + days, x.satFor(0, 0, 16, days, 1), (1 << days) - 1);
            ways = ways * (16 - days) / (days + 1);
        }
        doc.due("17 of 16", x.satFor(0, 0, 16, 17, 0), 0);
        doc.due("17 of 16", x.satFor(0, 0, 16, 17, 1), NONE);
        for (int k = 0; k < 10; k++) {
            x.set(0, k, 1 << k);
        }
        for (int days = 0; days < 1024; days += days < 40 ? 1 : 41) {
            doc.due("each set by itself", x.satFor(0, 0, 10, days, 1), days == 512 ? 512 : days);
            doc.due("one set", x.satFor(0, 0, 10, days, 0), 1);
        }
        for (int k = 0; k < 16; k++) {
            x.set(0, k, k == 15 ? 14 : 999);
        }
        doc.due("all but the last", x.satFor(0, 0, 16, 9990, 1), 1023);
        doc.due("with the last", x.satFor(0, 0, 16, 14, 1), 32768);
        Check.row(x, 1, 2, 3, 1, 2);
        doc.due("3, or 1 and 2", x.satFor(1, 0, 3, 3, 0), 2);
        doc.due("the least: bit 0", x.satFor(1, 0, 3, 3, 1), 1);
        Check.row(x, 1, 2, 1, 2, 3);
        doc.due("the least: bits 0 and 1 are 3, bit 2 is 4", x.satFor(1, 0, 3, 3, 1), 3);
    }

    private void satForHasBounds() {
        doc.promise(28);
        doc.says("SAT FOR, n weights (0 to 16) of a ROW from i on, so many DAYS (0 to 9999): how many (what = 0), the least (1);"
            + " NONE.");
        SpentWeeks x = new SpentWeeks();
        x.row(0, 2, 40);
        for (int k = 0; k < 40; k++) {
            x.set(0, k, 999);
        }
        x.set(0, 39, 9);
        doc.due("no weights, no DAYS", x.satFor(0, 0, 0, 0, 0), 1);
        doc.due("no weights, no DAYS", x.satFor(0, 0, 0, 0, 1), 0);
        doc.due("no weights, one DAY", x.satFor(0, 0, 0, 1, 0), 0);
        doc.due("no weights, one DAY", x.satFor(0, 0, 0, 1, 1), NONE);
        doc.due("none at the end", x.satFor(0, 40, 0, 0, 0), 1);
        doc.due("one, the last", x.satFor(0, 39, 1, 9, 1), 1);
        doc.due("16, up to the end, 9999 DAYS", x.satFor(0, 24, 16, 9999, 0), 3003);
        doc.due("the least", x.satFor(0, 24, 16, 9999, 1), 32768 | 1023);
        x.row(1, 0, 0);
        doc.due("of no ITEMS", x.satFor(1, 0, 0, 0, 0), 1);
        doc.says("BAD: ROW, n, DAYS, what; NULL; PLACE; then BAD: an ITEM not 1 to 999.");
        doc.due("n -1", x.satFor(0, 0, -1, 0, 0), BAD);
        doc.due("n 17", x.satFor(0, 0, 17, 0, 0), BAD);
        doc.due("DAYS -1", x.satFor(0, 0, 1, -1, 0), BAD);
        doc.due("DAYS 10000", x.satFor(0, 0, 1, 10000, 0), BAD);
        doc.due("what -1", x.satFor(0, 0, 1, 1, -1), BAD);
        doc.due("what 2", x.satFor(0, 0, 1, 1, 2), BAD);
        doc.due("ROW -1", x.satFor(-1, 0, 1, 1, 0), BAD);
        doc.due("ROW 8", x.satFor(8, 0, 1, 1, 0), BAD);
        doc.due("BAD ahead of NULL", x.satFor(7, 0, 17, 1, 0), BAD);
        doc.due("NULL ahead of PLACE", x.satFor(7, -1, 1, 1, 0), NULL);
        doc.due("i -1", x.satFor(0, -1, 1, 1, 0), PLACE);
        doc.due("i -1, none", x.satFor(0, -1, 0, 1, 0), PLACE);
        doc.due("one behind the end", x.satFor(0, 25, 16, 1, 0), PLACE);
        doc.due("none behind the end", x.satFor(0, 41, 0, 0, 0), PLACE);
        doc.due("an int's end", x.satFor(0, Integer.MAX_VALUE, 16, 0, 0), PLACE);
        Check.row(x, 2, 2, 1, 999, 0, 1, 1000, 1, -1);
        doc.due("1 and 999", x.satFor(2, 0, 2, 1000, 0), 1);
        for (int i = 1; i < 6; i++) {
            doc.due("one of two is not", x.satFor(2, i, 2, 1, 0), BAD);
            doc.due("for no DAYS, too", x.satFor(2, i, 2, 0, 1), BAD);
        }
        doc.due("none of them is asked for", x.satFor(2, 2, 0, 0, 0), 1);
    }

    private void setsAreBits() {
        doc.terms();
        doc.says("Sets are bits.");
        SpentWeeks x = Check.with("y9,1;c0,0,0;c0,0,0;c0,0,0;c0,0,0;c0,0,0;c0,0,0;");
        for (int one = 0; one < 6; one++) {
            x.row(0, 0, 6);
            x.set(0, one, 1);
            doc.due("of whom it is false", x.wrong(0, 0, -1), 1 << one);
            x.sentence(one, 1);
            doc.due("who sells", x.atRest(1), 1 << one);
            x.undo();
        }
    }
}

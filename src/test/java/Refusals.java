import java.util.function.Supplier;

/** Each refusal of each call, in its order, with what stands unchanged behind it. */
final class Refusals {
    private static final int BAD = SpentWeeks.BAD, STATE = SpentWeeks.STATE, FULL = SpentWeeks.FULL;
    private static final int NULL = -1000011, PLACE = -1000012, KIND = -1000013, SIZE = -1000014, STORE = -1000015;
    private static final int FINDINGS = -1000010;

    private final Doc doc;
    private Supplier<SpentWeeks> making;
    private String untouched;

    private interface Call {
        int of(SpentWeeks x);
    }

    Refusals(Doc doc) {
        this.doc = doc;
    }

    /**
     * An object that has something of everything: 0 is full, 1 has 5 DAYS, 2 has 3 and OWES 7, 3 has three LOTS, 4
     * OWES 50, 5 has nothing. ROW 0 has weights, 1 no ITEMS, 2 all of them, 3 wrong ones, 5 SALES; 4, 6, 7 are missing.
     */
    static SpentWeeks full() {
        SpentWeeks x = new SpentWeeks();
        Check.county(x, "y3,20;c5,10,50;s9,4,0;h3,30,99;t7,20,5;p6,15,40;c0,0,0;");
        x.sentence(2, 5);
        x.image(0);
        x.deed(2, 12);
        x.sentence(2, 3);
        x.sentence(1, 5);
        x.deed(4, 50);
        x.sentence(3, 11);
        x.sentence(3, 12);
        x.sentence(3, 13);
        for (int k = 0; k < 10; k++) {
            x.sentence(0, 999);
        }
        x.sentence(0, 9);
        Check.county(x, "y5");
        Check.feed(x, "y7,9;c1,2,3");
        Check.row(x, 0, 1, 3, 1, 4, 1, 5);
        x.row(1, 0, 0);
        x.row(2, 2, 40);
        for (int k = 0; k < 40; k++) {
            x.set(2, k, k + 1);
        }
        Check.row(x, 3, 1, 0, 1, 1000, 1, -1, 10000, 1);
        Check.row(x, 5, 1, 0, 1, 4, 9, 3, 2, 1, 7);
        x.ask(4, 1);
        x.copy(0, 0, 1, 0, 0);
        return x;
    }

    /** No COUNTY, but ROWS. */
    private static SpentWeeks bare() {
        SpentWeeks x = new SpentWeeks();
        Check.row(x, 0, 1, 3, 1, 4, 1, 5);
        x.row(1, 0, 0);
        Check.row(x, 3, 1, 0, 1, 1000, 1, -1, 10000, 1);
        x.feed('y');
        x.copy(0, 0, 1, 0, 0);
        return x;
    }

    private static SpentWeeks lastMonth() {
        SpentWeeks x = full();
        for (int k = 0; k < 999; k++) {
            x.month(k + 1);
        }
        return x;
    }

    private static SpentWeeks fullTape() {
        SpentWeeks x = full();
        while (x.count(6) < 120) {
            x.feed('c');
        }
        return x;
    }

    private static SpentWeeks noActs() {
        SpentWeeks x = full();
        x.restore(0);
        return x;
    }

    void hold() {
        doc.terms();
        doc.says("What is refused, or found, changes nothing but status().");
        in(Refusals::full);
        rowsRefuse();
        actsRefuse();
        personsRefuse();
        foretoldRefuse();
        toldRefuse();
        salesAndVerdictsRefuse();
        setsRefuse();
        asksRefuse();
        in(Refusals::fullTape);
        refuse("feed: FULL", x -> x.feed(';'), FULL);
        refuse("feed: BAD ahead of FULL", x -> x.feed(256), BAD);
        in(Refusals::lastMonth);
        refuse("month: FULL", x -> x.month(1), FULL);
        refuse("month: BAD ahead of FULL", x -> x.month(0), BAD);
        in(Refusals::noActs);
        refuse("undo: STATE", x -> x.undo(), STATE);
        in(Refusals::bare);
        noCountyRefuses();
    }

    private void in(Supplier<SpentWeeks> how) {
        making = how;
        untouched = Tale.whole(how.get());
    }

    /** The call comes to one of two that were made alike; then all that can be seen of both is alike. */
    private void refuse(String name, Call call, int want) {
        SpentWeeks x = making.get();
        int status = x.status();
        doc.due(name, call.of(x), want);
        boolean isFinding = want < FINDINGS;
        doc.due(name + ": status", x.status(), isFinding ? FINDINGS - want : status);
        doc.same(name + ": all stands", Tale.whole(x), untouched);
    }

    private void rowsRefuse() {
        refuse("row: ROW", x -> x.row(8, 0, 1), BAD);
        refuse("row: ROW", x -> x.row(-1, 0, 1), BAD);
        refuse("row: LANE", x -> x.row(0, 3, 1), BAD);
        refuse("row: LANE", x -> x.row(0, -1, 1), BAD);
        refuse("row: n", x -> x.row(0, 0, 41), BAD);
        refuse("row: SIZE", x -> x.row(0, 0, -1), SIZE);
        refuse("row: SIZE of a missing one", x -> x.row(4, 0, -1), SIZE);
        refuse("row: BAD ahead of SIZE", x -> x.row(8, 3, -1), BAD);
        refuse("set: ROW", x -> x.set(8, 0, 77), BAD);
        refuse("set: NULL", x -> x.set(4, 0, 77), NULL);
        refuse("set: PLACE", x -> x.set(0, 5, 77), PLACE);
        refuse("set: PLACE", x -> x.set(0, -1, 77), PLACE);
        refuse("set: PLACE of none", x -> x.set(1, 0, 77), PLACE);
        refuse("copy: ROWS", x -> x.copy(8, 0, 0, 0, 1), BAD);
        refuse("copy: ROWS", x -> x.copy(0, 0, 8, 0, 1), BAD);
        refuse("copy: NULL", x -> x.copy(4, 0, 0, 0, 1), NULL);
        refuse("copy: NULL", x -> x.copy(0, 0, 4, 0, 1), NULL);
        refuse("copy: STORE", x -> x.copy(0, 0, 2, 0, 1), STORE);
        refuse("copy: PLACE", x -> x.copy(0, 1, 5, 0, 5), PLACE);
        refuse("copy: PLACE", x -> x.copy(5, 0, 0, 0, 6), PLACE);
        refuse("copy: PLACE", x -> x.copy(5, -1, 0, 0, 1), PLACE);
        refuse("copy: PLACE", x -> x.copy(5, 0, 0, -1, 1), PLACE);
        refuse("copy: PLACE", x -> x.copy(5, 0, 0, 0, -1), PLACE);
        refuse("drop: BAD", x -> x.drop(8), BAD);
        refuse("drop: NULL", x -> x.drop(4), NULL);
        refuse("feed: BAD", x -> x.feed(-1), BAD);
        refuse("feed: BAD", x -> x.feed(256), BAD);
    }

    private void actsRefuse() {
        refuse("sentence: person", x -> x.sentence(6, 1), BAD);
        refuse("sentence: n", x -> x.sentence(1, 0), BAD);
        refuse("sentence: n", x -> x.sentence(1, 1000), BAD);
        refuse("sentence: FULL", x -> x.sentence(0, 1), FULL);
        refuse("deed: person", x -> x.deed(-1, 1), BAD);
        refuse("deed: weight", x -> x.deed(1, 0), BAD);
        refuse("deed: weight", x -> x.deed(1, 1000), BAD);
        refuse("sale: alike", x -> x.sale(0, 0, 1, 1), BAD);
        refuse("sale: seller", x -> x.sale(6, 0, 1, 1), BAD);
        refuse("sale: buyer", x -> x.sale(0, 6, 1, 1), BAD);
        refuse("sale: n", x -> x.sale(0, 1, 0, 1), BAD);
        refuse("sale: n", x -> x.sale(0, 1, 1000, 1), BAD);
        refuse("sale: CASH", x -> x.sale(0, 1, 1, -1), BAD);
        refuse("sale: CASH", x -> x.sale(0, 1, 1, 1000), BAD);
        refuse("sale: STATE", x -> x.sale(1, 2, 6, 1), STATE);
        refuse("sale: STATE ahead of FULL", x -> x.sale(1, 0, 6, 1), STATE);
        refuse("sale: FULL", x -> x.sale(1, 0, 1, 1), FULL);
        refuse("pays: person", x -> x.pays(6, 1), BAD);
        refuse("pays: n", x -> x.pays(2, 0), BAD);
        refuse("pays: n", x -> x.pays(2, 1000), BAD);
        refuse("pays: has fewer", x -> x.pays(2, 4), STATE);
        refuse("pays: OWES less", x -> x.pays(1, 1), STATE);
        refuse("dies: alike", x -> x.dies(1, 1), BAD);
        refuse("dies: person", x -> x.dies(6, 1), BAD);
        refuse("dies: heir", x -> x.dies(1, -1), BAD);
        refuse("dies: FULL", x -> x.dies(1, 0), FULL);
        refuse("dies: FULL", x -> x.dies(0, 1), FULL);
        refuse("pardon: person", x -> x.pardon(6), BAD);
        refuse("month: SEED", x -> x.month(0), BAD);
        refuse("month: SEED", x -> x.month(1000000), BAD);
    }

    private void personsRefuse() {
        refuse("person: person", x -> x.person(6, 0), BAD);
        refuse("person: what", x -> x.person(0, 7), BAD);
        refuse("lot: LOT", x -> x.lot(3, 3, 0), BAD);
        refuse("lot: what", x -> x.lot(3, 0, 2), BAD);
        refuse("lot: person", x -> x.lot(6, 0, 0), BAD);
        refuse("image: BAD", x -> x.image(2), BAD);
        refuse("image: BAD", x -> x.image(-1), BAD);
        refuse("restore: BAD", x -> x.restore(2), BAD);
        refuse("restore: STATE", x -> x.restore(1), STATE);
        refuse("count: BAD", x -> x.count(7), BAD);
        refuse("trace: NONE", x -> x.trace(16), SpentWeeks.NONE);
    }

    private void foretoldRefuse() {
        refuse("ahead: person", x -> x.ahead(6, 1, 1, 0), BAD);
        refuse("ahead: n", x -> x.ahead(0, 61, 1, 0), BAD);
        refuse("ahead: SEED", x -> x.ahead(0, 1, 0, 0), BAD);
        refuse("ahead: what", x -> x.ahead(0, 1, 1, 4), BAD);
        refuse("lapsed: person", x -> x.lapsed(6, 1), BAD);
        refuse("lapsed: n", x -> x.lapsed(0, 61), BAD);
        refuse("triedFirst: n", x -> x.triedFirst(61, 1, 0), BAD);
        refuse("triedFirst: SEED", x -> x.triedFirst(1, 1000000, 0), BAD);
        refuse("triedFirst: what", x -> x.triedFirst(1, 1, 2), BAD);
        refuse("market: p", x -> x.market(100, 0), BAD);
        refuse("market: what", x -> x.market(0, 2), BAD);
        refuse("atRest: what", x -> x.atRest(3), BAD);
    }

    private void toldRefuse() {
        refuse("cover: person", x -> x.cover(6, 0, 0, 1), BAD);
        refuse("cover: ROW", x -> x.cover(0, 8, 0, 1), BAD);
        refuse("cover: n", x -> x.cover(0, 0, 0, 13), BAD);
        refuse("cover: NULL", x -> x.cover(0, 4, 0, 1), NULL);
        refuse("cover: PLACE", x -> x.cover(0, 0, 4, 2), PLACE);
        refuse("cover: PLACE of none", x -> x.cover(0, 1, 0, 1), PLACE);
        refuse("cover: ITEM", x -> x.cover(0, 3, 1, 2), BAD);
        refuse("bestOrder: person", x -> x.bestOrder(6, 0, 0, 1, 0), BAD);
        refuse("bestOrder: ROW", x -> x.bestOrder(0, 8, 0, 1, 0), BAD);
        refuse("bestOrder: n", x -> x.bestOrder(0, 0, 0, 7, 0), BAD);
        refuse("bestOrder: k", x -> x.bestOrder(0, 0, 0, 1, 1), BAD);
        refuse("bestOrder: NULL", x -> x.bestOrder(0, 4, 0, 1, 0), NULL);
        refuse("bestOrder: PLACE", x -> x.bestOrder(0, 0, 4, 2, 0), PLACE);
        refuse("bestOrder: ITEM", x -> x.bestOrder(0, 3, 1, 2, 0), BAD);
    }

    private void salesAndVerdictsRefuse() {
        refuse("ring: ROW", x -> x.ring(8, 0, 1, 0), BAD);
        refuse("ring: n", x -> x.ring(5, 0, 10, 0), BAD);
        refuse("ring: n", x -> x.ring(5, 0, 0, 0), BAD);
        refuse("ring: what", x -> x.ring(5, 0, 1, 2), BAD);
        refuse("ring: NULL", x -> x.ring(4, 0, 1, 0), NULL);
        refuse("ring: PLACE", x -> x.ring(5, 1, 2, 0), PLACE);
        refuse("ring: ITEMS", x -> x.ring(5, 2, 1, 0), BAD);
        refuse("ring: ITEMS behind others", x -> x.ring(2, 0, 2, 0), BAD);
        refuse("wrong: ROW", x -> x.wrong(8, 0, -1), BAD);
        refuse("wrong: PERSON", x -> x.wrong(2, 0, -2), BAD);
        refuse("wrong: PERSON", x -> x.wrong(2, 0, 6), BAD);
        refuse("wrong: NULL", x -> x.wrong(4, 0, -1), NULL);
        refuse("wrong: PLACE", x -> x.wrong(2, 35, -1), PLACE);
        refuse("wrong: PLACE", x -> x.wrong(0, 0, -1), PLACE);
        refuse("wrong: ITEM", x -> x.wrong(3, 0, -1), BAD);
    }

    private void setsRefuse() {
        refuse("satFor: ROW", x -> x.satFor(8, 0, 0, 0, 0), BAD);
        refuse("satFor: n", x -> x.satFor(2, 0, 17, 0, 0), BAD);
        refuse("satFor: n", x -> x.satFor(2, 0, -1, 0, 0), BAD);
        refuse("satFor: DAYS", x -> x.satFor(2, 0, 1, 10000, 0), BAD);
        refuse("satFor: DAYS", x -> x.satFor(2, 0, 1, -1, 0), BAD);
        refuse("satFor: what", x -> x.satFor(2, 0, 1, 1, 2), BAD);
        refuse("satFor: NULL", x -> x.satFor(4, 0, 0, 0, 0), NULL);
        refuse("satFor: PLACE", x -> x.satFor(2, 25, 16, 0, 0), PLACE);
        refuse("satFor: ITEM", x -> x.satFor(3, 0, 1, 0, 0), BAD);
    }

    private void asksRefuse() {
        refuse("kind: BAD", x -> x.kind(6), BAD);
        refuse("as: one", x -> x.as(6, 0), BAD);
        refuse("as: KINDS", x -> x.as(0, 6), BAD);
        refuse("as: KIND", x -> x.as(0, 2), KIND);
        refuse("ask: one", x -> x.ask(6, 0), BAD);
        refuse("ask: what", x -> x.ask(0, 2), BAD);
        refuse("ask: what", x -> x.ask(0, -1), BAD);
    }

    private void noCountyRefuses() {
        refuse("undo", x -> x.undo(), STATE);
        refuse("sentence", x -> x.sentence(0, 1), BAD);
        refuse("deed", x -> x.deed(0, 1), BAD);
        refuse("sale", x -> x.sale(0, 1, 1, 1), BAD);
        refuse("pays", x -> x.pays(0, 1), BAD);
        refuse("dies", x -> x.dies(0, 1), BAD);
        refuse("pardon", x -> x.pardon(0), BAD);
        refuse("month", x -> x.month(1), STATE);
        refuse("month, ahead of BAD", x -> x.month(0), STATE);
        refuse("person", x -> x.person(0, 4), BAD);
        refuse("lot", x -> x.lot(0, 0, 0), BAD);
        refuse("ahead", x -> x.ahead(0, 0, 1, 0), BAD);
        refuse("lapsed", x -> x.lapsed(0, 0), BAD);
        refuse("triedFirst", x -> x.triedFirst(0, 1, 0), STATE);
        refuse("triedFirst, ahead of BAD", x -> x.triedFirst(-1, 0, 2), STATE);
        refuse("cover", x -> x.cover(0, 0, 0, 1), BAD);
        refuse("bestOrder", x -> x.bestOrder(0, 0, 0, 1, 0), BAD);
        refuse("market", x -> x.market(0, 0), STATE);
        refuse("market, ahead of BAD", x -> x.market(100, 2), STATE);
        refuse("atRest", x -> x.atRest(0), STATE);
        refuse("atRest, ahead of BAD", x -> x.atRest(3), STATE);
        refuse("ring", x -> x.ring(0, 0, 1, 0), STATE);
        refuse("ring, ahead of BAD", x -> x.ring(8, 0, 0, 2), STATE);
        refuse("ring, ahead of NULL", x -> x.ring(4, 0, 1, 0), STATE);
        refuse("wrong", x -> x.wrong(0, 0, -1), STATE);
        refuse("wrong, ahead of BAD", x -> x.wrong(8, 0, -2), STATE);
        refuse("satFor needs none, but a ROW", x -> x.satFor(4, 0, 0, 0, 0), NULL);
        refuse("image", x -> x.image(0), STATE);
        refuse("image, behind BAD", x -> x.image(2), BAD);
        refuse("restore", x -> x.restore(0), STATE);
        refuse("kind", x -> x.kind(0), BAD);
        refuse("as", x -> x.as(0, 0), BAD);
        refuse("ask", x -> x.ask(0, 0), BAD);
        refuse("trace", x -> x.trace(0), SpentWeeks.NONE);
    }
}

import java.util.ArrayDeque;
import java.util.ArrayList;
import java.util.Deque;
import java.util.List;
import java.util.Random;

/** Counties, acts and askings by chance (with a seed of its own), held against the Model. */
public final class PlainTest {
    private static final int RUNS = 400, STEPS = 40, CALLS = 512;
    private static final Check check = new Check();

    private final Random chance;
    private final SpentWeeks x = new SpentWeeks();
    private final Deque<Model> undone = new ArrayDeque<>();
    private final String name;
    private Model model = new Model();
    private Model image = null;
    private int calls = 0;

    private PlainTest(int seed) {
        chance = new Random(seed);
        name = "run " + seed + ": ";
    }

    public static void main(String[] args) {
        for (int seed = 0; seed < RUNS; seed++) {
            new PlainTest(seed).run();
        }
        check.end();
    }

    private int upTo(int n) {
        return chance.nextInt(n);
    }

    private void due(String call, int got, int want) {
        calls++;
        check.due(name + call, got, want);
    }

    private void run() {
        tellCounty();
        for (int step = 0; step < STEPS && calls < CALLS - 120; step++) {
            act();
            compareOne(upTo(model.people.size()));
            foretell();
        }
    }

    private void tellCounty() {
        model.term = 1 + upTo(upTo(2) == 0 ? 3 : 24);
        model.weight = 1 + upTo(30);
        int people = 2 + upTo(5);
        StringBuilder text = new StringBuilder("y" + model.term + "," + model.weight + ";");
        for (int k = 0; k < people; k++) {
            Model.One one = new Model.One();
            one.sort = "cshtp".charAt(upTo(5));
            one.lean = upTo(10);
            one.worth = upTo(upTo(2) == 0 ? 100 : 4);
            one.cash = upTo(100);
            model.people.add(one);
            text.append(one.sort).append(one.lean).append(',').append(one.worth).append(',').append(one.cash).append(';');
        }
        calls += text.length();
        due("county of " + text, Check.county(x, text.toString()), people);
    }

    private void remember() {
        undone.addLast(model.copy());
        if (undone.size() > 24) {
            undone.removeFirst();
        }
    }

    private void act() {
        int person = upTo(model.people.size());
        int other = (person + 1 + upTo(model.people.size() - 1)) % model.people.size();
        Model.One one = model.people.get(person);
        int n = 1 + upTo(upTo(8) == 0 ? 999 : 20);
        switch (upTo(11)) {
            case 0: case 1: case 2: sentence(person, one, n); break;
            case 3: case 4:
                remember();
                one.deed(n);
                due("deed", x.deed(person, n), one.owes);
                break;
            case 5: sell(person, other, n); break;
            case 6: pay(person, one, n); break;
            case 7: month(); break;
            case 8: die(person, other); break;
            case 9: undoOrRestore(); break;
            default: pardonOrImage(person, one); break;
        }
    }

    private void sentence(int person, Model.One one, int n) {
        if (one.unspent() + n > 9999) {
            due("sentence", x.sentence(person, n), SpentWeeks.FULL);
            return;
        }
        remember();
        one.come(n, model.month);
        due("sentence", x.sentence(person, n), one.unspent());
    }

    private void sell(int person, int other, int n) {
        int price = upTo(1000);
        Model ahead = model.copy();
        if (model.sale(person, other, n, price)) {
            undone.addLast(ahead);
            if (undone.size() > 24) {
                undone.removeFirst();
            }
            due("sale", x.sale(person, other, n, price), model.people.get(other).unspent());
        } else {
            boolean few = ahead.people.get(person).unspent() < n;
            due("sale", x.sale(person, other, n, price), few ? SpentWeeks.STATE : SpentWeeks.FULL);
        }
    }

    private void pay(int person, Model.One one, int n) {
        if (one.owes < n || one.unspent() < n) {
            due("pays", x.pays(person, n), SpentWeeks.STATE);
            return;
        }
        remember();
        one.spend(n);
        one.owes -= n;
        due("pays", x.pays(person, n), one.owes);
    }

    private void month() {
        remember();
        int seed = 1 + upTo(999999);
        due("month", x.month(seed), model.passMonths(1, seed));
    }

    private void die(int person, int other) {
        Model.One one = model.people.get(person);
        Model.One heir = model.people.get(other);
        if (one.unspent() + heir.unspent() > 9999) {
            due("dies", x.dies(person, other), SpentWeeks.FULL);
            return;
        }
        remember();
        for (int[] lot : one.lots) {
            heir.come(lot[0], model.month);
        }
        heir.cash += one.cash;
        one.lots.clear();
        one.cash = 0;
        one.owes = 0;
        due("dies", x.dies(person, other), heir.unspent());
    }

    private void undoOrRestore() {
        if (upTo(3) > 0) {
            int want = undone.isEmpty() ? SpentWeeks.STATE : undone.size() - 1;
            model = undone.isEmpty() ? model : undone.removeLast();
            due("undo", x.undo(), want);
        } else {
            due("restore", x.restore(0), image == null ? SpentWeeks.STATE : 1);
            if (image != null) {
                model = image.copy();
                undone.clear();
            }
        }
    }

    private void pardonOrImage(int person, Model.One one) {
        if (upTo(2) == 0) {
            remember();
            due("pardon", x.pardon(person), one.owes);
            one.owes = 0;
        } else {
            image = model.copy();
            due("image", x.image(0), 1);
        }
    }

    private void compareOne(int person) {
        Model.One one = model.people.get(person);
        int[] wants = {one.unspent(), one.owes, one.cash, one.done, one.lean, one.worth, one.lots.size()};
        for (int what = 0; what < 7; what++) {
            due("person(" + person + ", " + what + ")", x.person(person, what), wants[what]);
        }
        if (!one.lots.isEmpty()) {
            int lot = upTo(one.lots.size());
            due("lot days", x.lot(person, lot, 0), one.lots.get(lot)[0]);
            due("lot month", x.lot(person, lot, 1), one.lots.get(lot)[1]);
        }
        due("acts", x.count(5), undone.size());
    }

    private void foretell() {
        int person = upTo(model.people.size());
        int n = upTo(61);
        int seed = 1 + upTo(999999);
        int what = upTo(2);
        switch (upTo(10)) {
            case 0: ahead(person, n, seed); break;
            case 1: due("lapsed", x.lapsed(person, n), model.lapsed(person, n)); break;
            case 2: due("triedFirst", x.triedFirst(n, seed, what), model.triedFirst(n, seed, what)); break;
            case 3: case 4: cover(person); break;
            case 5: bestOrder(person); break;
            case 6: atRest(what); break;
            case 7: ring(what); break;
            case 8: wrong(person); break;
            default: satFor(what); break;
        }
    }

    private void ahead(int person, int n, int seed) {
        Model other = model.copy();
        other.passMonths(n, seed);
        Model.One one = other.people.get(person);
        int[] wants = {one.unspent(), one.owes, one.cash, one.done};
        for (int what = 0; what < 4; what++) {
            due("ahead " + n + " " + seed + " " + what, x.ahead(person, n, seed, what), wants[what]);
        }
    }

    /** A ROW with some ITEMS ahead, and these behind them: where they begin. */
    private int tell(List<Integer> items) {
        int from = upTo(4);
        x.row(0, 2, from + items.size());
        for (int k = 0; k < items.size(); k++) {
            x.set(0, from + k, items.get(k));
        }
        calls += 1 + items.size();
        return from;
    }

    private List<Integer> weights(int n) {
        int most = new int[] {4, 20, 120, 999}[upTo(4)];
        List<Integer> weights = new ArrayList<>();
        for (int k = 0; k < n; k++) {
            weights.add(1 + upTo(most));
        }
        return weights;
    }

    private void cover(int person) {
        List<Integer> weights = weights(1 + upTo(12));
        int from = tell(weights);
        due("cover " + weights, x.cover(person, 0, from, weights.size()), model.cover(person, weights));
    }

    private void bestOrder(int person) {
        List<Integer> weights = weights(1 + upTo(upTo(4) == 0 ? 6 : 4));
        int from = tell(weights);
        int[] best = model.bestOrder(person, weights);
        for (int k = -1; k < weights.size(); k++) {
            due("bestOrder " + weights + " " + k, x.bestOrder(person, 0, from, weights.size(), k), best[k + 1]);
        }
    }

    private void atRest(int what) {
        int price = upTo(100);
        due("market " + price, x.market(price, what), model.market(price, what));
        for (int each = 0; each < 3; each++) {
            due("atRest " + each, x.atRest(each), model.atRest(each));
        }
    }

    private void ring(int what) {
        List<Integer> sales = new ArrayList<>();
        int n = 1 + upTo(9);
        int people = model.people.size();
        for (int k = 0; k < n; k++) {
            int seller = upTo(people);
            sales.add(seller);
            sales.add((seller + 1 + upTo(people - 1)) % people);
            sales.add(1 + upTo(9));
            sales.add(upTo(100));
        }
        int from = tell(sales);
        due("ring " + sales, x.ring(0, from, n, what), model.ring(sales, what));
    }

    private void wrong(int person) {
        List<Integer> told = new ArrayList<>();
        int bits = 0;
        for (int k = 0; k < model.people.size(); k++) {
            int unspent = model.people.get(k).unspent();
            told.add(upTo(2) == 0 ? unspent : Math.max(0, Math.min(9999, unspent + upTo(80) - 60)));
            bits += told.get(k) == unspent ? 0 : 1 << k;
        }
        int from = tell(told);
        due("wrong " + told, x.wrong(0, from, -1), bits);
        due("wrong " + told + " " + person, x.wrong(0, from, person), model.fewestDeeds(person, told.get(person)));
    }

    private void satFor(int what) {
        List<Integer> weights = weights(upTo(17));
        int sum = 0;
        for (int weight : weights) {
            sum += upTo(2) * weight;
        }
        int days = Math.min(9999, Math.max(0, sum + (upTo(4) == 0 ? upTo(9) - 4 : 0)));
        int from = tell(weights);
        due("satFor " + weights + " " + days, x.satFor(0, from, weights.size(), days, what),
            Model.satFor(weights, days, what));
    }
}

import java.util.ArrayDeque;
import java.util.ArrayList;
import java.util.Arrays;
import java.util.Collections;
import java.util.Deque;
import java.util.List;

/**
 * The whole face a second time, by the document's words: every call with its refusals, in the plainest way.
 * A COUNTY and what is foretold of it is a Model; here are ROWS, the tape, ACTS, images, ASKS, findings.
 */
final class Whole {
    private static final int NONE = -1000000, BAD = -1000001, STATE = -1000002, FULL = -1000003;
    private static final int NULL = 1, PLACE = 2, KIND = 3, SIZE = 4, STORE = 5;
    private static final String SORTS = ".cshtp";
    /** What each KIND is, too: a CITIZEN a PERSON, a SAINT a CITIZEN .. */
    private static final int[] NEXT_KIND = {-1, 0, 1, 1, 0, 4};

    private final int[][] rows = new int[8][];
    private final int[] lanes = new int[8];
    private final StringBuilder tape = new StringBuilder();
    private final Deque<Model> ahead = new ArrayDeque<>();
    private final Model[] images = new Model[2];
    private final List<Integer> trace = new ArrayList<>();
    private Model county = null;
    private int fault = 0;
    private int status = 0;

    private static boolean out(int v, int least, int most) {
        return v < least || v > most;
    }

    int people() {
        return county == null ? 0 : county.people.size();
    }

    private boolean nobody(int person) {
        return out(person, 0, people() - 1);
    }

    private Model.One one(int person) {
        return county.people.get(person);
    }

    private int found(int finding) {
        status = finding;
        return -1000010 - finding;
    }

    private int fine(int answer) {
        status = 0;
        return answer;
    }

    // ---- rows

    int row(int row, int lane, int n) {
        if (out(row, 0, 7) || out(lane, 0, 2) || n > 40) {
            return BAD;
        }
        if (n < 0) {
            return found(SIZE);
        }
        rows[row] = new int[n];
        lanes[row] = lane;
        return fine(n);
    }

    int set(int row, int i, int v) {
        if (out(row, 0, 7)) {
            return BAD;
        }
        if (rows[row] == null) {
            return found(NULL);
        }
        if (out(i, 0, rows[row].length - 1)) {
            return found(PLACE);
        }
        int unused = new int[] {24, 16, 0}[lanes[row]];
        rows[row][i] = v << unused >> unused;
        return fine(rows[row][i]);
    }

    int copy(int a, int i, int b, int j, int n) {
        if (out(a, 0, 7) || out(b, 0, 7)) {
            return BAD;
        }
        if (rows[a] == null || rows[b] == null) {
            return found(NULL);
        }
        if (lanes[a] != lanes[b]) {
            return found(STORE);
        }
        if (i < 0 || j < 0 || n < 0 || (long) i + n > rows[a].length || (long) j + n > rows[b].length) {
            return found(PLACE);
        }
        int[] were = rows[a].clone();
        for (int k = 0; k < n; k++) {
            rows[b][j + k] = were[i + k];
        }
        return fine(n);
    }

    int drop(int row) {
        if (out(row, 0, 7)) {
            return BAD;
        }
        if (rows[row] == null) {
            return found(NULL);
        }
        int had = rows[row].length;
        rows[row] = null;
        return fine(had);
    }

    /** NULL or PLACE, 0 if n ITEMS are there from i on. */
    private int missing(int row, int i, int n) {
        if (rows[row] == null) {
            return NULL;
        }
        return i < 0 || (long) i + n > rows[row].length ? PLACE : 0;
    }

    private List<Integer> told(int row, int i, int n) {
        List<Integer> items = new ArrayList<>();
        for (int k = i; k < i + n; k++) {
            items.add(rows[row][k]);
        }
        return items;
    }

    private static boolean outside(List<Integer> items, int least, int most) {
        return items.stream().anyMatch(item -> out(item, least, most));
    }

    // ---- what is told

    int feed(int letter) {
        if (out(letter, 0, 255)) {
            return BAD;
        }
        if (tape.length() == 120) {
            return FULL;
        }
        return tape.append((char) letter).length();
    }

    int county() {
        String text = tape.toString();
        tape.setLength(0);
        Reading reading = new Reading(text);
        if (reading.fault > 0) {
            fault = reading.fault;
            return reading.answer;
        }
        String[] parts = text.split(";");
        county = new Model();
        county.term = number(parts[0].substring(1).split(",")[0]);
        county.weight = number(parts[0].split(",")[1]);
        for (String part : Arrays.asList(parts).subList(1, parts.length)) {
            String[] numbers = part.substring(1).split(",");
            Model.One one = new Model.One();
            one.sort = part.charAt(0);
            one.lean = number(numbers[0]);
            one.worth = number(numbers[1]);
            one.cash = number(numbers[2]);
            county.people.add(one);
        }
        ahead.clear();
        return people();
    }

    private static int number(String figures) {
        return Integer.parseInt(figures);
    }

    int fault() {
        return fault;
    }

    int undo() {
        if (ahead.isEmpty()) {
            return STATE;
        }
        county = ahead.removeLast();
        return ahead.size();
    }

    // ---- what is done

    private void act() {
        ahead.addLast(county.copy());
        if (ahead.size() == 25) {
            ahead.removeFirst();
        }
    }

    int sentence(int person, int n) {
        if (nobody(person) || out(n, 1, 999)) {
            return BAD;
        }
        if (one(person).unspent() + n > 9999) {
            return FULL;
        }
        act();
        one(person).come(n, county.month);
        return one(person).unspent();
    }

    int deed(int person, int weight) {
        if (nobody(person) || out(weight, 1, 999)) {
            return BAD;
        }
        act();
        one(person).deed(weight);
        return one(person).owes;
    }

    private boolean isNoSale(int seller, int buyer, int n, int cash) {
        return nobody(seller) || nobody(buyer) || seller == buyer || out(n, 1, 999) || out(cash, 0, 999);
    }

    int sale(int seller, int buyer, int n, int cash) {
        if (isNoSale(seller, buyer, n, cash)) {
            return BAD;
        }
        if (one(seller).unspent() < n) {
            return STATE;
        }
        if (one(buyer).unspent() + n > 9999) {
            return FULL;
        }
        act();
        county.sale(seller, buyer, n, cash);
        return one(buyer).unspent();
    }

    int pays(int person, int n) {
        if (nobody(person) || out(n, 1, 999)) {
            return BAD;
        }
        if (one(person).unspent() < n || one(person).owes < n) {
            return STATE;
        }
        act();
        one(person).spend(n);
        one(person).owes -= n;
        return one(person).owes;
    }

    int dies(int person, int heir) {
        if (nobody(person) || nobody(heir) || person == heir) {
            return BAD;
        }
        if (one(person).unspent() + one(heir).unspent() > 9999) {
            return FULL;
        }
        act();
        Model.One dead = one(person);
        while (!dead.lots.isEmpty()) {
            one(heir).come(dead.lots.remove(0)[0], county.month);
        }
        one(heir).cash += dead.cash;
        dead.cash = 0;
        dead.owes = 0;
        return one(heir).unspent();
    }

    int pardon(int person) {
        if (nobody(person)) {
            return BAD;
        }
        act();
        int owed = one(person).owes;
        one(person).owes = 0;
        return owed;
    }

    int month(int seed) {
        if (county == null) {
            return STATE;
        }
        if (out(seed, 1, 999999)) {
            return BAD;
        }
        if (county.month == 999) {
            return FULL;
        }
        act();
        return county.passMonths(1, seed);
    }

    int person(int person, int what) {
        if (nobody(person) || out(what, 0, 6)) {
            return BAD;
        }
        Model.One one = one(person);
        return new int[] {one.unspent(), one.owes, one.cash, one.done, one.lean, one.worth, one.lots.size()}[what];
    }

    int lot(int person, int lot, int what) {
        if (nobody(person) || out(lot, 0, one(person).lots.size() - 1) || out(what, 0, 1)) {
            return BAD;
        }
        return one(person).lots.get(lot)[what];
    }

    // ---- foretold

    int ahead(int person, int n, int seed, int what) {
        if (nobody(person) || out(n, 0, 60) || out(seed, 1, 999999) || out(what, 0, 3)) {
            return BAD;
        }
        Model then = county.copy();
        then.passMonths(n, seed);
        Model.One one = then.people.get(person);
        return new int[] {one.unspent(), one.owes, one.cash, one.done}[what];
    }

    int lapsed(int person, int n) {
        return nobody(person) || out(n, 0, 60) ? BAD : county.lapsed(person, n);
    }

    int triedFirst(int n, int seed, int what) {
        if (county == null) {
            return STATE;
        }
        return out(n, 0, 60) || out(seed, 1, 999999) || out(what, 0, 1) ? BAD : county.triedFirst(n, seed, what);
    }

    int cover(int person, int row, int i, int n) {
        if (nobody(person) || out(row, 0, 7) || out(n, 1, 12)) {
            return BAD;
        }
        if (missing(row, i, n) > 0) {
            return found(missing(row, i, n));
        }
        List<Integer> weights = told(row, i, n);
        return outside(weights, 1, 999) ? BAD : fine(county.cover(person, weights));
    }

    int bestOrder(int person, int row, int i, int n, int k) {
        if (nobody(person) || out(row, 0, 7) || out(n, 1, 6) || out(k, -1, n - 1)) {
            return BAD;
        }
        if (missing(row, i, n) > 0) {
            return found(missing(row, i, n));
        }
        List<Integer> weights = told(row, i, n);
        return outside(weights, 1, 999) ? BAD : fine(county.bestOrder(person, weights)[k + 1]);
    }

    int market(int p, int what) {
        if (county == null) {
            return STATE;
        }
        return out(p, 0, 99) || out(what, 0, 1) ? BAD : county.market(p, what);
    }

    int atRest(int what) {
        if (county == null) {
            return STATE;
        }
        return out(what, 0, 2) ? BAD : county.atRest(what);
    }

    int ring(int row, int i, int n, int what) {
        if (county == null) {
            return STATE;
        }
        if (out(row, 0, 7) || out(n, 1, 9) || out(what, 0, 1)) {
            return BAD;
        }
        if (missing(row, i, 4 * n) > 0) {
            return found(missing(row, i, 4 * n));
        }
        List<Integer> items = told(row, i, 4 * n);
        for (int k = 0; k < 4 * n; k += 4) {
            if (isNoSale(items.get(k), items.get(k + 1), items.get(k + 2), items.get(k + 3))) {
                return BAD;
            }
        }
        return fine(county.ring(items, what));
    }

    int wrong(int row, int i, int person) {
        if (county == null) {
            return STATE;
        }
        if (out(row, 0, 7) || person != -1 && nobody(person)) {
            return BAD;
        }
        if (missing(row, i, people()) > 0) {
            return found(missing(row, i, people()));
        }
        List<Integer> items = told(row, i, people());
        if (outside(items, 0, 9999)) {
            return BAD;
        }
        if (person >= 0) {
            return fine(county.fewestDeeds(person, items.get(person)));
        }
        int bits = 0;
        for (int k = 0; k < people(); k++) {
            bits += items.get(k) == one(k).unspent() ? 0 : 1 << k;
        }
        return fine(bits);
    }

    int satFor(int row, int i, int n, int days, int what) {
        if (out(row, 0, 7) || out(n, 0, 16) || out(days, 0, 9999) || out(what, 0, 1)) {
            return BAD;
        }
        if (missing(row, i, n) > 0) {
            return found(missing(row, i, n));
        }
        List<Integer> weights = told(row, i, n);
        return outside(weights, 1, 999) ? BAD : fine(Model.satFor(weights, days, what));
    }

    int image(int k) {
        if (out(k, 0, 1)) {
            return BAD;
        }
        if (county == null) {
            return STATE;
        }
        images[k] = county.copy();
        return 1;
    }

    int restore(int k) {
        if (out(k, 0, 1)) {
            return BAD;
        }
        if (images[k] == null) {
            return STATE;
        }
        county = images[k].copy();
        ahead.clear();
        return 1;
    }

    // ---- asked

    int kind(int one) {
        return nobody(one) ? BAD : SORTS.indexOf(one(one).sort);
    }

    int as(int one, int kind) {
        if (nobody(one) || out(kind, 0, 5)) {
            return BAD;
        }
        for (int k = kind(one); k >= 0; k = NEXT_KIND[k]) {
            if (k == kind) {
                return fine(one);
            }
        }
        return found(KIND);
    }

    int ask(int one, int what) {
        if (nobody(one) || out(what, 0, 1)) {
            return BAD;
        }
        trace.clear();
        return asked(one, what);
    }

    /** The BODY of the nearest KIND that has one for this ASK. */
    private int asked(int one, int what) {
        int[][] bodies = {{10, 11, 12, 0, 13, 14}, {20, 21, 24, 22, 23, 0}};
        int kind = kind(one);
        while (bodies[what][kind] == 0) {
            kind = NEXT_KIND[kind];
        }
        return body(one, bodies[what][kind]);
    }

    private int body(int one, int body) {
        trace.add(body);
        switch (body) {
            case 10: return one(one).unspent();
            case 11: return body(one, 10) + asked(one, 1);
            case 12: return 0 - body(one, 11);
            case 13: return body(one, 10) - 100;
            case 14: return body(one, 13) * 2;
            case 20: return one;
            case 21: return body(one, 20) + one(one).lots.size();
            case 22: return body(one, 21) - 1000;
            case 23: return body(one, 20) - asked(one, 0);
            case 24: return body(one, 21) * 2;
            default: throw new IllegalStateException("no such BODY: " + body);
        }
    }

    int trace(int i) {
        return out(i, 0, Math.min(16, trace.size()) - 1) ? NONE : trace.get(i);
    }

    int count(int what) {
        List<Model.One> all = county == null ? Collections.emptyList() : county.people;
        switch (what) {
            case 0: return (int) Arrays.stream(rows).filter(row -> row != null).count();
            case 1: return all.size();
            case 2: return county == null ? 0 : county.month;
            case 3: return all.stream().mapToInt(Model.One::unspent).sum();
            case 4: return all.stream().mapToInt(one -> one.owes).sum();
            case 5: return ahead.size();
            case 6: return tape.length();
            default: return BAD;
        }
    }

    int status() {
        return status;
    }
}

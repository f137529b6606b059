import java.util.ArrayList;
import java.util.List;

/**
 * The document's words done the longest way, with lists and trials of everything; PlainTest holds the class
 * against it. Only what can be answered otherwise than by looking a number up is here.
 */
final class Model {
    static final int NONE = SpentWeeks.NONE;

    /** One of the PEOPLE; a LOT is an array of its DAYS and its MONTH. */
    static final class One {
        char sort;
        int lean;
        int worth;
        int cash;
        int owes;
        int done;
        List<int[]> lots = new ArrayList<>();

        One copy() {
            One other = new One();
            other.sort = sort;
            other.lean = lean;
            other.worth = worth;
            other.cash = cash;
            other.owes = owes;
            other.done = done;
            for (int[] lot : lots) {
                other.lots.add(lot.clone());
            }
            return other;
        }

        int unspent() {
            return lots.stream().mapToInt(lot -> lot[0]).sum();
        }

        void come(int days, int month) {
            if (lots.size() == 6) {
                lots.get(5)[0] += days;
            } else {
                lots.add(new int[] {days, month});
            }
        }

        /** Day by day. */
        void spend(int n) {
            for (int day = 0; day < n && !lots.isEmpty(); day++) {
                int at = sort == 't' || sort == 'p' ? lots.size() - 1 : 0;
                lots.get(at)[0]--;
                if (lots.get(at)[0] == 0) {
                    lots.remove(at);
                }
            }
        }

        void deed(int weight) {
            int missing = Math.max(0, weight - unspent());
            spend(weight);
            owes = Math.min(9999, owes + missing);
            done++;
        }

        void endMonth(int month, int term) {
            if (sort != 'h') {
                lots.removeIf(lot -> lot[1] + term <= month);
            }
            if (sort == 'p') {
                owes = owes / 2;
            }
        }
    }

    List<One> people = new ArrayList<>();
    int term;
    int weight;
    int month;

    Model copy() {
        Model other = new Model();
        other.term = term;
        other.weight = weight;
        other.month = month;
        for (One one : people) {
            other.people.add(one.copy());
        }
        return other;
    }

    int passMonths(int n, int seed) {
        long x = seed;
        int deeds = 0;
        for (int k = 0; k < n; k++) {
            for (One one : people) {
                x = x * 16807L % 2147483647L;
                if (one.sort != 's' && x % 10 < one.lean) {
                    one.deed((int) (1 + x / 10 % weight));
                    deeds++;
                }
            }
            for (One one : people) {
                one.endMonth(month, term);
            }
            month++;
        }
        return deeds;
    }

    int owed() {
        return people.stream().mapToInt(one -> one.owes).sum();
    }

    int triedFirst(int n, int seed, int what) {
        Model other = copy();
        other.people.forEach(one -> one.lots.clear());
        int deeds = other.passMonths(n, seed);
        return what == 0 ? deeds : other.owed() - owed();
    }

    int lapsed(int person, int n) {
        One one = people.get(person).copy();
        int ahead = one.unspent();
        for (int k = 0; k < n; k++) {
            one.endMonth(month + k, term);
        }
        return ahead - one.unspent();
    }

    /** What one OWES behind a SENTENCE and these DEEDS. */
    private int owesBehind(int person, int sentence, List<Integer> weights) {
        One one = people.get(person).copy();
        if (sentence > 0) {
            one.come(sentence, month);
        }
        for (int k = 0; k < weights.size(); k++) {
            one.deed(weights.get(k));
            one.endMonth(month + k, term);
        }
        return one.owes;
    }

    int cover(int person, List<Integer> weights) {
        for (int sentence = 0; sentence <= 999; sentence++) {
            if (owesBehind(person, sentence, weights) <= people.get(person).owes) {
                return sentence;
            }
        }
        return NONE;
    }

    /** What is OWED, then the places. */
    int[] bestOrder(int person, List<Integer> weights) {
        int n = weights.size();
        int[] best = null;
        long codes = Math.round(Math.pow(n, n));
        for (long code = 0; code < codes; code++) {
            int[] places = new int[n];
            long rest = code;
            int used = 0;
            for (int k = n - 1; k >= 0; k--) {
                places[k] = (int) (rest % n);
                rest /= n;
                used |= 1 << places[k];
            }
            if (used != (1 << n) - 1) {
                continue;
            }
            List<Integer> order = new ArrayList<>();
            for (int place : places) {
                order.add(weights.get(place));
            }
            int owes = owesBehind(person, 0, order);
            if (best == null || owes < best[0]) {
                best = new int[n + 1];
                best[0] = owes;
                System.arraycopy(places, 0, best, 1, n);
            }
        }
        return best;
    }

    int market(int price, int what) {
        int sum = 0;
        for (One one : people) {
            if (what == 0 && one.worth <= price && one.owes == 0) {
                sum += one.unspent();
            }
            if (what == 1 && one.worth >= price) {
                sum += one.owes;
            }
        }
        return sum;
    }

    int atRest(int what) {
        for (int price = 0; price < 100; price++) {
            if (market(price, 1) > market(price, 0)) {
                continue;
            }
            int bits = 0;
            for (int k = 0; k < people.size(); k++) {
                One one = people.get(k);
                boolean sells = one.worth <= price && one.owes == 0 && one.unspent() > 0;
                boolean buys = one.worth >= price && one.owes > 0;
                bits += (what == 1 ? sells : buys) ? 1 << k : 0;
            }
            return what == 0 ? price : bits;
        }
        return NONE;
    }

    boolean sale(int seller, int buyer, int n, int price) {
        One from = people.get(seller);
        One to = people.get(buyer);
        if (from.unspent() < n || to.unspent() + n > 9999) {
            return false;
        }
        from.spend(n);
        to.come(n, month);
        from.cash += price;
        to.cash -= price;
        return true;
    }

    int ring(List<Integer> items, int what) {
        Model other = copy();
        int sold = 0;
        while (4 * sold < items.size() && other.sale(items.get(4 * sold), items.get(4 * sold + 1),
                items.get(4 * sold + 2), items.get(4 * sold + 3))) {
            sold++;
        }
        int bits = 0;
        for (int k = 0; k < people.size(); k++) {
            One one = people.get(k);
            One then = other.people.get(k);
            int ahead = one.worth * one.unspent() + one.cash;
            bits += then.worth * then.unspent() + then.cash < ahead ? 1 << k : 0;
        }
        return what == 0 ? sold : bits;
    }

    /** The fewest DEEDS, by DEEDS of WEIGHT with one of less at last. */
    int fewestDeeds(int person, int told) {
        int unspent = people.get(person).unspent();
        int deeds = 0;
        while (unspent > told) {
            unspent = Math.max(told, unspent - weight);
            deeds++;
        }
        return unspent == told ? deeds : NONE;
    }

    static int satFor(List<Integer> weights, int days, int what) {
        int howMany = 0;
        int least = NONE;
        for (int set = 0; set < 1 << weights.size(); set++) {
            int sum = 0;
            for (int k = 0; k < weights.size(); k++) {
                sum += (set >> k & 1) * weights.get(k);
            }
            if (sum == days) {
                least = howMany == 0 ? set : least;
                howMany++;
            }
        }
        return what == 0 ? howMany : least;
    }
}

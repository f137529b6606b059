/**
 * A county in which the sentence comes first and the deed is tried later.
 * What each call answers is told in the project's document, promise by promise.
 */
public final class SpentWeeks {
    public static final int NONE = -1000000, BAD = -1000001, STATE = -1000002, FULL = -1000003;

    private static final int NULL_ROW = 1, NO_PLACE = 2, NO_SUCH_KIND = 3, BELOW_NONE = 4, TWO_LANES = 5;
    private static final int FINDINGS = -1000010, FAULTS = -1000100;

    private static final int PERSON = 0, CITIZEN = 1, SAINT = 2, HEIR = 3, THIEF = 4, PARDONED = 5;
    /** Bits: which KINDS one of each KIND is, too. */
    private static final int[] IS_TOO = {1, 3, 7, 11, 17, 49};

    private static final int ROWS = 8, ITEMS = 40, TAPE = 120, PEOPLE = 6, LOTS = 6, ACTS = 24, IMAGES = 2;
    private static final int MOST_DAYS = 9999, MOST_AT_ONCE = 999, MOST_SEED = 999999, MOST_AHEAD = 60;
    private static final int LAST_MONTH = 999, TOP_PRICE = 99, MOST_COVERED = 12, MOST_ORDERED = 6;
    private static final int MOST_SALES = 9, SALE_ITEMS = 4, MOST_WEIGHTS = 16, TRACED = 16;

    private final Rows rows = new Rows();
    private final Tape tape = new Tape();
    private final Acts acts = new Acts();
    private final Asks asks = new Asks();
    private final Deeds deeds = new Deeds();
    private final Sets sets = new Sets();
    private final County now = new County();
    private final County scratch = new County();
    private final County[] images = {new County(), new County()};
    private final boolean[] imageKept = new boolean[IMAGES];
    private final int[] told = new int[ITEMS];
    private boolean hasCounty = false;
    private int latestFault = 0;
    private int latestFinding = 0;

    public SpentWeeks() {
    }

    // ---- rows

    public int row(int row, int lane, int n) {
        if (!isRow(row) || !within(lane, 0, 2) || n > ITEMS) {
            return BAD;
        }
        if (n < 0) {
            return found(BELOW_NONE);
        }
        rows.make(row, lane, n);
        return fine(n);
    }

    public int set(int row, int i, int v) {
        if (!isRow(row)) {
            return BAD;
        }
        int finding = rows.findingOf(row, i, 1);
        return finding != 0 ? found(finding) : fine(rows.put(row, i, v));
    }

    public int copy(int a, int i, int b, int j, int n) {
        if (!isRow(a) || !isRow(b)) {
            return BAD;
        }
        if (rows.isMissing(a) || rows.isMissing(b)) {
            return found(NULL_ROW);
        }
        if (rows.lanes[a] != rows.lanes[b]) {
            return found(TWO_LANES);
        }
        if (rows.findingOf(a, i, n) != 0 || rows.findingOf(b, j, n) != 0) {
            return found(NO_PLACE);
        }
        System.arraycopy(rows.items[a], i, rows.items[b], j, n);
        return fine(n);
    }

    public int drop(int row) {
        if (!isRow(row)) {
            return BAD;
        }
        return rows.isMissing(row) ? found(NULL_ROW) : fine(rows.lose(row));
    }

    // ---- what is told

    public int feed(int letter) {
        if (!within(letter, 0, 255)) {
            return BAD;
        }
        return tape.size >= TAPE ? FULL : tape.append(letter);
    }

    public int county() {
        boolean isRead = tape.readInto(scratch);
        tape.size = 0;
        if (!isRead) {
            latestFault = tape.faultNumber;
            return FAULTS - tape.faultPlace;
        }
        now.copyFrom(scratch);
        hasCounty = true;
        acts.size = 0;
        return now.people;
    }

    public int fault() {
        return latestFault;
    }

    public int undo() {
        if (acts.size < 1) {
            return STATE;
        }
        acts.takeBack(now);
        return acts.size;
    }

    // ---- what is done

    public int sentence(int person, int n) {
        if (!isPerson(person) || !within(n, 1, MOST_AT_ONCE)) {
            return BAD;
        }
        Person one = now.person[person];
        if (one.unspent() + n > MOST_DAYS) {
            return FULL;
        }
        acts.remember(now);
        one.gain(n, now.month);
        return one.unspent();
    }

    public int deed(int person, int weight) {
        if (!isPerson(person) || !within(weight, 1, MOST_AT_ONCE)) {
            return BAD;
        }
        acts.remember(now);
        now.person[person].commit(weight);
        return now.person[person].owes;
    }

    public int sale(int seller, int buyer, int n, int cash) {
        if (!isSale(seller, buyer, n, cash)) {
            return BAD;
        }
        int refusal = now.refusalOfSale(seller, buyer, n);
        if (refusal != 0) {
            return refusal;
        }
        acts.remember(now);
        now.sell(seller, buyer, n, cash);
        return now.person[buyer].unspent();
    }

    public int pays(int person, int n) {
        if (!isPerson(person) || !within(n, 1, MOST_AT_ONCE)) {
            return BAD;
        }
        Person one = now.person[person];
        if (one.unspent() < n || one.owes < n) {
            return STATE;
        }
        acts.remember(now);
        one.spend(n);
        one.owes -= n;
        return one.owes;
    }

    public int dies(int person, int heir) {
        if (!isPerson(person) || !isPerson(heir) || person == heir) {
            return BAD;
        }
        Person dead = now.person[person];
        Person other = now.person[heir];
        if (dead.unspent() + other.unspent() > MOST_DAYS) {
            return FULL;
        }
        acts.remember(now);
        dead.leaveTo(other, now.month);
        return other.unspent();
    }

    public int pardon(int person) {
        if (!isPerson(person)) {
            return BAD;
        }
        acts.remember(now);
        int owed = now.person[person].owes;
        now.person[person].owes = 0;
        return owed;
    }

    public int month(int seed) {
        if (!hasCounty) {
            return STATE;
        }
        if (!within(seed, 1, MOST_SEED)) {
            return BAD;
        }
        if (now.month >= LAST_MONTH) {
            return FULL;
        }
        acts.remember(now);
        return now.passMonths(1, seed);
    }

    public int person(int person, int what) {
        if (!isPerson(person)) {
            return BAD;
        }
        Person one = now.person[person];
        switch (what) {
            case 4: return one.lean;
            case 5: return one.worth;
            case 6: return one.lots;
            default: return amount(one, what);
        }
    }

    public int lot(int person, int lot, int what) {
        if (!isPerson(person) || !within(what, 0, 1)) {
            return BAD;
        }
        Person one = now.person[person];
        if (!within(lot, 0, one.lots - 1)) {
            return BAD;
        }
        return what == 0 ? one.days[lot] : one.came[lot];
    }

    // ---- foretold

    public int ahead(int person, int n, int seed, int what) {
        if (!isPerson(person) || !areMonths(n, seed) || !within(what, 0, 3)) {
            return BAD;
        }
        scratch.copyFrom(now);
        scratch.passMonths(n, seed);
        return amount(scratch.person[person], what);
    }

    public int lapsed(int person, int n) {
        if (!isPerson(person) || !within(n, 0, MOST_AHEAD)) {
            return BAD;
        }
        return now.person[person].lapsing(now.month + n - 1, now.term);
    }

    public int triedFirst(int n, int seed, int what) {
        if (!hasCounty) {
            return STATE;
        }
        if (!areMonths(n, seed) || !within(what, 0, 1)) {
            return BAD;
        }
        scratch.copyFrom(now);
        scratch.loseLots();
        int done = scratch.passMonths(n, seed);
        return what == 0 ? done : scratch.owedByAll() - now.owedByAll();
    }

    public int cover(int person, int row, int i, int n) {
        if (!isPerson(person) || !isRow(row) || !within(n, 1, MOST_COVERED)) {
            return BAD;
        }
        int refusal = refusalOfTold(row, i, n, 1, MOST_AT_ONCE);
        if (refusal != 0) {
            return refusal;
        }
        deeds.begin(now, told, n);
        return fine(deeds.leastCover(now.person[person]));
    }

    public int bestOrder(int person, int row, int i, int n, int k) {
        if (!isPerson(person) || !isRow(row) || !within(n, 1, MOST_ORDERED) || !within(k, -1, n - 1)) {
            return BAD;
        }
        int refusal = refusalOfTold(row, i, n, 1, MOST_AT_ONCE);
        if (refusal != 0) {
            return refusal;
        }
        deeds.begin(now, told, n);
        deeds.findBestOrder(now.person[person]);
        return fine(k < 0 ? deeds.leastOwed : deeds.best[k]);
    }

    public int market(int p, int what) {
        if (!hasCounty) {
            return STATE;
        }
        if (!within(p, 0, TOP_PRICE) || !within(what, 0, 1)) {
            return BAD;
        }
        return what == 0 ? now.supplyAt(p) : now.demandAt(p);
    }

    public int atRest(int what) {
        if (!hasCounty) {
            return STATE;
        }
        if (!within(what, 0, 2)) {
            return BAD;
        }
        int price = now.priceAtRest();
        if (price == NONE || what == 0) {
            return price;
        }
        return what == 1 ? now.sellersAt(price) : now.buyersAt(price);
    }

    public int ring(int row, int i, int n, int what) {
        if (!hasCounty) {
            return STATE;
        }
        if (!isRow(row) || !within(n, 1, MOST_SALES) || !within(what, 0, 1)) {
            return BAD;
        }
        int refusal = refusalOfTold(row, i, SALE_ITEMS * n, 0, MOST_AT_ONCE);
        if (refusal != 0) {
            return refusal;
        }
        for (int k = 0; k < n; k++) {
            int at = SALE_ITEMS * k;
            if (!isSale(told[at], told[at + 1], told[at + 2], told[at + 3])) {
                return BAD;
            }
        }
        scratch.copyFrom(now);
        int sold = scratch.sellAlong(told, n);
        return fine(what == 0 ? sold : scratch.poorerThan(now));
    }

    public int wrong(int row, int i, int person) {
        if (!hasCounty) {
            return STATE;
        }
        if (!isRow(row) || !within(person, -1, now.people - 1)) {
            return BAD;
        }
        int refusal = refusalOfTold(row, i, now.people, 0, MOST_DAYS);
        if (refusal != 0) {
            return refusal;
        }
        return fine(person < 0 ? now.falselyTold(told) : now.fewestDeeds(person, told[person]));
    }

    public int satFor(int row, int i, int n, int days, int what) {
        if (!isRow(row) || !within(n, 0, MOST_WEIGHTS) || !within(days, 0, MOST_DAYS) || !within(what, 0, 1)) {
            return BAD;
        }
        int refusal = refusalOfTold(row, i, n, 1, MOST_AT_ONCE);
        if (refusal != 0) {
            return refusal;
        }
        sets.find(told, n, days);
        return fine(what == 0 ? sets.howMany : sets.least);
    }

    public int image(int k) {
        if (!within(k, 0, IMAGES - 1)) {
            return BAD;
        }
        if (!hasCounty) {
            return STATE;
        }
        images[k].copyFrom(now);
        imageKept[k] = true;
        return 1;
    }

    public int restore(int k) {
        if (!within(k, 0, IMAGES - 1)) {
            return BAD;
        }
        if (!imageKept[k]) {
            return STATE;
        }
        now.copyFrom(images[k]);
        acts.size = 0;
        return 1;
    }

    // ---- asked

    public int kind(int one) {
        return isPerson(one) ? now.person[one].kind : BAD;
    }

    public int as(int one, int kind) {
        if (!isPerson(one) || !within(kind, PERSON, PARDONED)) {
            return BAD;
        }
        return now.person[one].isOf(kind) ? fine(one) : found(NO_SUCH_KIND);
    }

    public int ask(int one, int what) {
        if (!isPerson(one) || !within(what, 0, 1)) {
            return BAD;
        }
        asks.traced = 0;
        return what == 0 ? asks.sizeOf(now.person[one], 0) : asks.markOf(now.person[one], 0);
    }

    public int trace(int i) {
        return within(i, 0, asks.traced - 1) ? asks.bodies[i] : NONE;
    }

    public int count(int what) {
        switch (what) {
            case 0: return rows.howMany();
            case 1: return now.people;
            case 2: return now.month;
            case 3: return now.unspentOfAll();
            case 4: return now.owedByAll();
            case 5: return acts.size;
            case 6: return tape.size;
            default: return BAD;
        }
    }

    public int status() {
        return latestFinding;
    }

    // ---- what the calls share

    private static boolean within(int v, int least, int most) {
        return v >= least && v <= most;
    }

    private static boolean isRow(int row) {
        return within(row, 0, ROWS - 1);
    }

    private boolean isPerson(int person) {
        return within(person, 0, now.people - 1);
    }

    private boolean isSale(int seller, int buyer, int n, int cash) {
        return isPerson(seller) && isPerson(buyer) && seller != buyer
            && within(n, 1, MOST_AT_ONCE) && within(cash, 0, MOST_AT_ONCE);
    }

    private static boolean areMonths(int n, int seed) {
        return within(n, 0, MOST_AHEAD) && within(seed, 1, MOST_SEED);
    }

    /** Takes n ITEMS of a ROW as what is told; 0 if they are there, and none is out of bounds. */
    private int refusalOfTold(int row, int i, int n, int least, int most) {
        int finding = rows.findingOf(row, i, n);
        if (finding != 0) {
            return found(finding);
        }
        rows.tell(row, i, n, told);
        for (int k = 0; k < n; k++) {
            if (!within(told[k], least, most)) {
                return BAD;
            }
        }
        return 0;
    }

    private static int amount(Person one, int what) {
        switch (what) {
            case 0: return one.unspent();
            case 1: return one.owes;
            case 2: return one.cash;
            case 3: return one.done;
            default: return BAD;
        }
    }

    private int found(int finding) {
        latestFinding = finding;
        return FINDINGS - finding;
    }

    private int fine(int answer) {
        latestFinding = 0;
        return answer;
    }

    /** The ROWS; all lanes are held as ints, cut to the LANE as they come. */
    private static final class Rows {
        private static final int MISSING = -1, BYTES = 0, SHORTS = 1;

        final int[] lanes = {MISSING, MISSING, MISSING, MISSING, MISSING, MISSING, MISSING, MISSING};
        final int[] sizes = new int[ROWS];
        final int[][] items = new int[ROWS][ITEMS];

        boolean isMissing(int row) {
            return lanes[row] == MISSING;
        }

        void make(int row, int lane, int n) {
            lanes[row] = lane;
            sizes[row] = n;
            for (int k = 0; k < n; k++) {
                items[row][k] = 0;
            }
        }

        int lose(int row) {
            lanes[row] = MISSING;
            return sizes[row];
        }

        int put(int row, int i, int v) {
            int cut = v;
            if (lanes[row] == BYTES) {
                cut = (byte) v;
            } else if (lanes[row] == SHORTS) {
                cut = (short) v;
            }
            items[row][i] = cut;
            return cut;
        }

        int findingOf(int row, int i, int n) {
            if (isMissing(row)) {
                return NULL_ROW;
            }
            return i < 0 || n < 0 || i > sizes[row] - n ? NO_PLACE : 0;
        }

        void tell(int row, int i, int n, int[] to) {
            System.arraycopy(items[row], i, to, 0, n);
        }

        int howMany() {
            int there = 0;
            for (int row = 0; row < ROWS; row++) {
                there += isMissing(row) ? 0 : 1;
            }
            return there;
        }
    }

    /** The tape, and the reading of a COUNTY from it. */
    private static final class Tape {
        private static final int CANNOT_STAND = 1, NOT_AS_TOLD = 2, NO_ROOM = 3;
        private static final int MOST_TERM = 24, MOST_WEIGHT = 30, MOST_LEAN = 9, MOST_NUMBER = 99, FIGURES = 2;

        final int[] bytes = new int[TAPE];
        int size = 0;
        int faultNumber = 0;
        int faultPlace = 0;
        private int at = 0;
        private int value = 0;

        int append(int letter) {
            bytes[size] = letter;
            size++;
            return size;
        }

        boolean readInto(County county) {
            at = 0;
            county.clear();
            if (!readLaw(county)) {
                return false;
            }
            // one more than there is room for, so that its letter is looked at
            for (int k = 0; k <= PEOPLE && at < size; k++) {
                if (!readPerson(county)) {
                    return false;
                }
            }
            return true;
        }

        private boolean readLaw(County county) {
            if (!readByte('y') || !readNumber(1, MOST_TERM)) {
                return false;
            }
            county.term = value;
            if (!readByte(',') || !readNumber(1, MOST_WEIGHT)) {
                return false;
            }
            county.weight = value;
            return readByte(';');
        }

        private boolean readPerson(County county) {
            int kind = kindOf(nextByte());
            if (kind == PERSON) {
                return fails(CANNOT_STAND);
            }
            if (county.people >= PEOPLE) {
                return fails(NO_ROOM);
            }
            at++;
            Person one = county.person[county.people];
            county.people++;
            one.kind = kind;
            if (!readNumber(0, MOST_LEAN) || !readByte(',')) {
                return false;
            }
            one.lean = value;
            if (!readNumber(0, MOST_NUMBER) || !readByte(',')) {
                return false;
            }
            one.worth = value;
            if (!readNumber(0, MOST_NUMBER) || !readByte(';')) {
                return false;
            }
            one.cash = value;
            return true;
        }

        private static int kindOf(int letter) {
            switch (letter) {
                case 'c': return CITIZEN;
                case 's': return SAINT;
                case 'h': return HEIR;
                case 't': return THIEF;
                case 'p': return PARDONED;
                default: return PERSON;
            }
        }

        private int nextByte() {
            return at < size ? bytes[at] : -1;
        }

        private boolean readByte(int wanted) {
            if (nextByte() != wanted) {
                return fails(CANNOT_STAND);
            }
            at++;
            return true;
        }

        private boolean readNumber(int least, int most) {
            int figures = 0;
            int number = 0;
            for (int k = at; k < size && within(bytes[k], '0', '9') && figures <= FIGURES; k++) {
                number = number * 10 + bytes[k] - '0';
                figures++;
            }
            if (!within(figures, 1, FIGURES)) {
                return fails(CANNOT_STAND);
            }
            if (!within(number, least, most)) {
                return fails(NOT_AS_TOLD);
            }
            at += figures;
            value = number;
            return true;
        }

        private boolean fails(int number) {
            faultNumber = number;
            faultPlace = at;
            return false;
        }
    }

    /** One of the PEOPLE, with his LOTS from the first one on. */
    private static final class Person {
        final int number;
        int kind = PERSON;
        int lean = 0;
        int worth = 0;
        int cash = 0;
        int owes = 0;
        int done = 0;
        int lots = 0;
        final int[] days = new int[LOTS];
        final int[] came = new int[LOTS];

        Person(int number) {
            this.number = number;
        }

        void clear() {
            kind = PERSON;
            lean = 0;
            worth = 0;
            cash = 0;
            owes = 0;
            done = 0;
            lots = 0;
        }

        void copyFrom(Person other) {
            kind = other.kind;
            lean = other.lean;
            worth = other.worth;
            cash = other.cash;
            owes = other.owes;
            done = other.done;
            lots = other.lots;
            for (int k = 0; k < lots; k++) {
                days[k] = other.days[k];
                came[k] = other.came[k];
            }
        }

        boolean isOf(int wanted) {
            return ((IS_TOO[kind] >> wanted) & 1) == 1;
        }

        int unspent() {
            int sum = 0;
            for (int k = 0; k < lots; k++) {
                sum += days[k];
            }
            return sum;
        }

        int fortune() {
            return worth * unspent() + cash;
        }

        void gain(int n, int month) {
            if (lots >= LOTS) {
                days[LOTS - 1] += n;
                return;
            }
            days[lots] = n;
            came[lots] = month;
            lots++;
        }

        /** SPENDS n DAYS as far as there are any: how many are missing. */
        int spend(int n) {
            boolean fromLast = isOf(THIEF);
            int left = n;
            for (int k = 0; k < lots && left > 0; k++) {
                int lot = fromLast ? lots - 1 - k : k;
                int spent = Math.min(left, days[lot]);
                days[lot] -= spent;
                left -= spent;
            }
            dropEmptyLots();
            return left;
        }

        void commit(int weight) {
            owes = Math.min(MOST_DAYS, owes + spend(weight));
            done++;
        }

        void leaveTo(Person heir, int month) {
            for (int k = 0; k < lots; k++) {
                heir.gain(days[k], month);
            }
            heir.cash += cash;
            lots = 0;
            cash = 0;
            owes = 0;
        }

        /** How many DAYS lapse at the end of a MONTH, with all that have lapsed by then. */
        int lapsing(int month, int term) {
            int sum = 0;
            for (int k = 0; k < lots; k++) {
                sum += lapses(k, month, term) ? days[k] : 0;
            }
            return sum;
        }

        void endMonth(int month, int term) {
            for (int k = 0; k < lots; k++) {
                if (lapses(k, month, term)) {
                    days[k] = 0;
                }
            }
            dropEmptyLots();
            if (isOf(PARDONED)) {
                owes /= 2;
            }
        }

        private boolean lapses(int lot, int month, int term) {
            return !isOf(HEIR) && month - came[lot] >= term;
        }

        private void dropEmptyLots() {
            int kept = 0;
            for (int k = 0; k < lots; k++) {
                if (days[k] > 0) {
                    days[kept] = days[k];
                    came[kept] = came[k];
                    kept++;
                }
            }
            lots = kept;
        }
    }

    /** The law, the MONTH, and the PEOPLE. */
    private static final class County {
        int term = 1;
        int weight = 1;
        int month = 0;
        int people = 0;
        final Person[] person = {new Person(0), new Person(1), new Person(2),
            new Person(3), new Person(4), new Person(5)};

        void clear() {
            month = 0;
            people = 0;
            for (int k = 0; k < PEOPLE; k++) {
                person[k].clear();
            }
        }

        void copyFrom(County other) {
            term = other.term;
            weight = other.weight;
            month = other.month;
            people = other.people;
            for (int k = 0; k < people; k++) {
                person[k].copyFrom(other.person[k]);
            }
        }

        int unspentOfAll() {
            int sum = 0;
            for (int k = 0; k < people; k++) {
                sum += person[k].unspent();
            }
            return sum;
        }

        int owedByAll() {
            int sum = 0;
            for (int k = 0; k < people; k++) {
                sum += person[k].owes;
            }
            return sum;
        }

        void loseLots() {
            for (int k = 0; k < people; k++) {
                person[k].lots = 0;
            }
        }

        /** n MONTHS, the draws going on from one to the next: how many DEEDS were done. */
        int passMonths(int n, int seed) {
            long x = seed;
            int all = 0;
            for (int k = 0; k < n; k++) {
                for (int one = 0; one < people; one++) {
                    x = x * 16807 % 2147483647;
                    all += drawFor(person[one], (int) x);
                }
                endMonth();
            }
            return all;
        }

        private int drawFor(Person one, int x) {
            // a saint's draw is made, too, but leads to nothing
            if (one.isOf(SAINT) || x % 10 >= one.lean || weight < 1) {
                return 0;
            }
            one.commit(1 + x / 10 % weight);
            return 1;
        }

        private void endMonth() {
            for (int k = 0; k < people; k++) {
                person[k].endMonth(month, term);
            }
            month++;
        }

        int refusalOfSale(int seller, int buyer, int n) {
            if (person[seller].unspent() < n) {
                return STATE;
            }
            return person[buyer].unspent() + n > MOST_DAYS ? FULL : 0;
        }

        void sell(int seller, int buyer, int n, int price) {
            person[seller].spend(n);
            person[seller].cash += price;
            person[buyer].gain(n, month);
            person[buyer].cash -= price;
        }

        /** Does n told SALES up to the first that cannot be: how many were done. */
        int sellAlong(int[] sales, int n) {
            for (int k = 0; k < n; k++) {
                int at = SALE_ITEMS * k;
                if (refusalOfSale(sales[at], sales[at + 1], sales[at + 2]) != 0) {
                    return k;
                }
                sell(sales[at], sales[at + 1], sales[at + 2], sales[at + 3]);
            }
            return n;
        }

        int poorerThan(County before) {
            int bits = 0;
            for (int k = 0; k < people; k++) {
                bits |= person[k].fortune() < before.person[k].fortune() ? 1 << k : 0;
            }
            return bits;
        }

        private int offerAt(Person one, int price) {
            return one.worth <= price && one.owes == 0 ? one.unspent() : 0;
        }

        private int wantAt(Person one, int price) {
            return one.worth >= price ? one.owes : 0;
        }

        int supplyAt(int price) {
            int sum = 0;
            for (int k = 0; k < people; k++) {
                sum += offerAt(person[k], price);
            }
            return sum;
        }

        int demandAt(int price) {
            int sum = 0;
            for (int k = 0; k < people; k++) {
                sum += wantAt(person[k], price);
            }
            return sum;
        }

        int sellersAt(int price) {
            int bits = 0;
            for (int k = 0; k < people; k++) {
                bits |= offerAt(person[k], price) > 0 ? 1 << k : 0;
            }
            return bits;
        }

        int buyersAt(int price) {
            int bits = 0;
            for (int k = 0; k < people; k++) {
                bits |= wantAt(person[k], price) > 0 ? 1 << k : 0;
            }
            return bits;
        }

        int priceAtRest() {
            for (int price = 0; price <= TOP_PRICE; price++) {
                if (demandAt(price) <= supplyAt(price)) {
                    return price;
                }
            }
            return NONE;
        }

        int falselyTold(int[] unspent) {
            int bits = 0;
            for (int k = 0; k < people; k++) {
                bits |= person[k].unspent() != unspent[k] ? 1 << k : 0;
            }
            return bits;
        }

        /** DEEDS only take DAYS away, WEIGHT at most by each. */
        int fewestDeeds(int one, int unspent) {
            int over = person[one].unspent() - unspent;
            if (over < 0 || weight < 1) {
                return NONE;
            }
            return (over + weight - 1) / weight;
        }
    }

    /** What the COUNTY was ahead of each ACT that can be undone, in a ring of places. */
    private static final class Acts {
        final County[] before = new County[ACTS];
        int next = 0;
        int size = 0;

        Acts() {
            for (int k = 0; k < ACTS; k++) {
                before[k] = new County();
            }
        }

        void remember(County now) {
            before[next].copyFrom(now);
            next = (next + 1) % ACTS;
            size = Math.min(ACTS, size + 1);
        }

        void takeBack(County now) {
            next = (next + ACTS - 1) % ACTS;
            size--;
            now.copyFrom(before[next]);
        }
    }

    /** Told DEEDS of one, done in the MONTHS from now on without draws. */
    private static final class Deeds {
        final int[] best = new int[MOST_ORDERED];
        int leastOwed = 0;
        private final int[] order = new int[MOST_ORDERED];
        private final Person[] stages = new Person[MOST_ORDERED + 1];
        private final int[] weights = new int[MOST_COVERED];
        private int size = 0;
        private int month = 0;
        private int term = 1;

        Deeds() {
            for (int k = 0; k <= MOST_ORDERED; k++) {
                stages[k] = new Person(k);
            }
        }

        void begin(County county, int[] told, int n) {
            System.arraycopy(told, 0, weights, 0, n);
            size = n;
            month = county.month;
            term = county.term;
        }

        /**
         * Halves the range: with more DAYS of a SENTENCE no LOT ever has fewer DAYS behind
         * a DEED or a lapse, so that what covers goes on covering as the SENTENCE grows.
         */
        int leastCover(Person one) {
            if (!covers(one, MOST_AT_ONCE)) {
                return NONE;
            }
            int least = 0;
            int most = MOST_AT_ONCE;
            for (int step = 0; step < 10 && least < most; step++) {
                int middle = (least + most) / 2;
                if (covers(one, middle)) {
                    most = middle;
                } else {
                    least = middle + 1;
                }
            }
            return least;
        }

        private boolean covers(Person one, int sentence) {
            Person trial = stages[0];
            trial.copyFrom(one);
            if (sentence > 0) {
                trial.gain(sentence, month);
            }
            for (int k = 0; k < size; k++) {
                trial.commit(weights[k]);
                trial.endMonth(month + k, term);
            }
            return trial.owes <= one.owes;
        }

        void findBestOrder(Person one) {
            stages[0].copyFrom(one);
            leastOwed = MOST_DAYS + 1;
            tryOrders(0, 0);
        }

        /** Orders come first by places first, so the first of the best ones stays. */
        private void tryOrders(int depth, int used) {
            if (depth >= size || depth >= MOST_ORDERED) {
                keepIfBetter();
                return;
            }
            Person behind = stages[depth + 1];
            for (int place = 0; place < size; place++) {
                if (((used >> place) & 1) == 1) {
                    continue;
                }
                order[depth] = place;
                behind.copyFrom(stages[depth]);
                behind.commit(weights[place]);
                behind.endMonth(month + depth, term);
                tryOrders(depth + 1, used | 1 << place);
            }
        }

        private void keepIfBetter() {
            if (stages[size].owes < leastOwed) {
                leastOwed = stages[size].owes;
                System.arraycopy(order, 0, best, 0, size);
            }
        }
    }

    /** Sets of places by the sum of their weights: the first eight places against the others. */
    private static final class Sets {
        private static final int HALF = 8, HALF_SETS = 1 << HALF;

        int howMany = 0;
        int least = NONE;
        /** Sums of the first half, each with its set behind it, in order: of one sum the least set is first. */
        private final int[] low = new int[HALF_SETS];
        private final int[] merged = new int[HALF_SETS];
        private final int[] high = new int[HALF_SETS];

        void find(int[] weights, int n, int days) {
            int lows = Math.min(n, HALF);
            int highs = Math.min(n - lows, HALF);
            sortLow(weights, lows);
            sumHigh(weights, lows, highs);
            howMany = 0;
            least = NONE;
            for (int set = 0; set < 1 << highs; set++) {
                match(set << lows, days - high[set], 1 << lows);
            }
        }

        private void sortLow(int[] weights, int n) {
            low[0] = 0;
            for (int k = 0; k < n; k++) {
                mergeWith(weights[k] * HALF_SETS + (1 << k), 1 << k);
            }
        }

        /** The first of the sums, and these with one more place, become one row in order. */
        private void mergeWith(int more, int size) {
            int without = 0;
            int with = 0;
            for (int k = 0; k < 2 * size; k++) {
                if (with >= size || without < size && low[without] < low[with] + more) {
                    merged[k] = low[without];
                    without++;
                } else {
                    merged[k] = low[with] + more;
                    with++;
                }
            }
            System.arraycopy(merged, 0, low, 0, 2 * size);
        }

        private void sumHigh(int[] weights, int from, int n) {
            high[0] = 0;
            for (int k = 0; k < n; k++) {
                for (int set = 0; set < 1 << k; set++) {
                    high[set | 1 << k] = high[set] + weights[from + k];
                }
            }
        }

        private void match(int highSet, int rest, int size) {
            if (rest < 0) {
                return;
            }
            int first = placeOf(rest, size);
            int alike = placeOf(rest + 1, size) - first;
            if (least == NONE && alike > 0) {
                least = highSet | low[first] % HALF_SETS;
            }
            howMany += alike;
        }

        /** How many of the first sums are less than a sum. */
        private int placeOf(int sum, int size) {
            int from = 0;
            int to = size;
            for (int step = 0; step <= HALF && from < to; step++) {
                int middle = (from + to) / 2;
                if (low[middle] < sum * HALF_SETS) {
                    from = middle + 1;
                } else {
                    to = middle;
                }
            }
            return from;
        }
    }

    /**
     * ASKS of one: the BODY of the nearest KIND begins, and leaves its number. No KIND asks
     * SIZE and MARK of each other for ever; the depth is carried, should a BODY come that does.
     */
    private static final class Asks {
        private static final int DEEPEST = 8;

        final int[] bodies = new int[TRACED];
        int traced = 0;

        private void begin(int body) {
            if (traced < TRACED) {
                bodies[traced] = body;
                traced++;
            }
        }

        int sizeOf(Person one, int depth) {
            if (depth > DEEPEST) {
                return NONE;
            }
            switch (one.kind) {
                case CITIZEN:
                case HEIR: return sizeOfCitizen(one, depth);
                case SAINT: return sizeOfSaint(one, depth);
                case THIEF: return sizeOfThief(one);
                case PARDONED: return sizeOfPardoned(one);
                default: return sizeOfAny(one);
            }
        }

        int markOf(Person one, int depth) {
            if (depth > DEEPEST) {
                return NONE;
            }
            switch (one.kind) {
                case CITIZEN: return markOfCitizen(one);
                case SAINT: return markOfSaint(one);
                case HEIR: return markOfHeir(one);
                case THIEF:
                case PARDONED: return markOfThief(one, depth);
                default: return markOfAny(one);
            }
        }

        private int sizeOfAny(Person one) {
            begin(10);
            return one.unspent();
        }

        private int sizeOfCitizen(Person one, int depth) {
            begin(11);
            int given = sizeOfAny(one);
            return given + markOf(one, depth + 1);
        }

        private int sizeOfSaint(Person one, int depth) {
            begin(12);
            return -sizeOfCitizen(one, depth);
        }

        private int sizeOfThief(Person one) {
            begin(13);
            return sizeOfAny(one) - 100;
        }

        private int sizeOfPardoned(Person one) {
            begin(14);
            return 2 * sizeOfThief(one);
        }

        private int markOfAny(Person one) {
            begin(20);
            return one.number;
        }

        private int markOfCitizen(Person one) {
            begin(21);
            return markOfAny(one) + one.lots;
        }

        private int markOfHeir(Person one) {
            begin(22);
            return markOfCitizen(one) - 1000;
        }

        private int markOfThief(Person one, int depth) {
            begin(23);
            int given = markOfAny(one);
            return given - sizeOf(one, depth + 1);
        }

        private int markOfSaint(Person one) {
            begin(24);
            return 2 * markOfCitizen(one);
        }
    }
}

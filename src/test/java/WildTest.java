import java.util.Random;

/** No call throws or gives a wild answer, whatever its arguments; what is refused, or found, changes nothing. */
public final class WildTest {
    private static final int RUNS = 600, CALLS = 512;
    private static final int[] EDGES = {Integer.MIN_VALUE, Integer.MIN_VALUE + 1, -1000, -2, -1, 0, 1, 2, 3, 4, 5, 6, 7,
        8, 9, 10, 12, 13, 16, 17, 24, 39, 40, 41, 60, 61, 99, 100, 999, 1000, 9999, 10000, 999999, 1000000,
        1 << 30, Integer.MAX_VALUE - 1, Integer.MAX_VALUE};
    private static final Check check = new Check();
    private static final int CALL_KINDS = 36;

    public static void main(String[] args) {
        for (int seed = 0; seed < RUNS; seed++) {
            run(new Random(seed), "run " + seed + ": ");
        }
        check.end();
    }

    private static void run(Random chance, String name) {
        SpentWeeks x = new SpentWeeks();
        if (chance.nextInt(4) > 0) {
            Check.county(x, "y2,9;c5,10,50;s9,4,0;h3,30,99;t7,20,5;p6,15,40;c0,0,0;");
        }
        for (int call = 0; call < CALLS; call++) {
            int which = chance.nextInt(CALL_KINDS);
            int[] a = new int[5];
            for (int k = 0; k < 5; k++) {
                boolean edge = chance.nextInt(5) == 0;
                a[k] = edge ? EDGES[chance.nextInt(EDGES.length)] : chance.nextInt(8);
            }
            String ahead = Tale.now(x);
            int answer = call(x, which, a);
            boolean refused = answer <= -1000001;
            if (refused && which != 6) {
                check.due(name + "call " + which + " is refused, changes nothing", ahead.equals(Tale.now(x)) ? 1 : 0, 1);
            }
            check.due(name + "call " + which + " answers as told",
                which == 1 || answer >= -1000003 || answer <= -1000011 && answer >= -1000220 ? 1 : 0, 1);
        }
    }

    private static int call(SpentWeeks x, int which, int[] a) {
        return which < 18 ? callFirst(x, which, a) : callLast(x, which, a);
    }

    private static int callFirst(SpentWeeks x, int which, int[] a) {
        switch (which) {
            case 0: return x.row(a[0], a[1], a[2]);
            case 1: return x.set(a[0], a[1], a[2]);
            case 2: return x.copy(a[0], a[1], a[2], a[3], a[4]);
            case 3: return x.drop(a[0]);
            case 4: return x.feed(a[0]);
            case 5: return x.fault();
            case 6: return x.county();
            case 7: return x.undo();
            case 8: return x.sentence(a[0], a[1]);
            case 9: return x.deed(a[0], a[1]);
            case 10: return x.sale(a[0], a[1], a[2], a[3]);
            case 11: return x.pays(a[0], a[1]);
            case 12: return x.dies(a[0], a[1]);
            case 13: return x.pardon(a[0]);
            case 14: return x.month(a[0]);
            case 15: return x.person(a[0], a[1]);
            case 16: return x.lot(a[0], a[1], a[2]);
            default: return x.ahead(a[0], a[1], a[2], a[3]);
        }
    }

    private static int callLast(SpentWeeks x, int which, int[] a) {
        switch (which) {
            case 18: return x.lapsed(a[0], a[1]);
            case 19: return x.triedFirst(a[0], a[1], a[2]);
            case 20: return x.cover(a[0], a[1], a[2], a[3]);
            case 21: return x.bestOrder(a[0], a[1], a[2], a[3], a[4]);
            case 22: return x.market(a[0], a[1]);
            case 23: return x.atRest(a[0]);
            case 24: return x.ring(a[0], a[1], a[2], a[3]);
            case 25: return x.wrong(a[0], a[1], a[2]);
            case 26: return x.satFor(a[0], a[1], a[2], a[3], a[4]);
            case 27: return x.image(a[0]);
            case 28: return x.restore(a[0]);
            case 29: return x.kind(a[0]);
            case 30: return x.as(a[0], a[1]);
            case 31: return x.ask(a[0], a[1]);
            case 32: return x.trace(a[0]);
            case 33: return x.count(a[0]);
            case 34: return x.row(a[0] & 7, 2, a[1] & 31);
            default: return x.status();
        }
    }
}

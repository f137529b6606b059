import java.lang.reflect.Method;
import java.lang.reflect.Modifier;
import java.util.Map;
import java.util.Random;
import java.util.TreeMap;

/**
 * Runs of 512 calls of the whole face by chance (with seeds of its own), right and wrong arguments mixed: every answer
 * is the one that Whole gives. Each call must have been answered, and refused if it can be, often enough.
 */
public final class WholeTest {
    private static final int RUNS = 500, CALLS = 512, OFTEN = 40;
    private static final Check check = new Check();
    private static final Map<String, Method> theClass = calls(SpentWeeks.class);
    private static final Map<String, Method> theWords = calls(Whole.class);
    private static final Map<String, Integer> answers = new TreeMap<>();

    private final Random chance;
    private final SpentWeeks x = new SpentWeeks();
    private final Whole whole = new Whole();
    private final String name;
    private int called = 0;

    private WholeTest(int seed) {
        chance = new Random(seed);
        name = "run " + seed + ", call ";
    }

    public static void main(String[] args) throws Exception {
        for (int seed = 0; seed < RUNS; seed++) {
            new WholeTest(seed).run();
        }
        for (String call : theClass.keySet()) {
            check.due(call + " was answered often", answers.getOrDefault(call, 0) >= OFTEN ? 1 : 0, 1);
            boolean canBeRefused = !"fault status trace".contains(call);
            boolean wasRefused = answers.getOrDefault(call + " refused", 0) >= OFTEN;
            check.due(call + " was refused often", wasRefused ? 1 : 0, canBeRefused ? 1 : 0);
        }
        check.end();
    }

    private static Map<String, Method> calls(Class<?> type) {
        Map<String, Method> methods = new TreeMap<>();
        for (Method method : type.getDeclaredMethods()) {
            if (!Modifier.isPrivate(method.getModifiers())) {
                methods.put(method.getName(), method);
            }
        }
        return methods;
    }

    private void call(String call, int... args) throws Exception {
        if (called == CALLS) {
            return;
        }
        called++;
        Object[] given = new Object[args.length];
        StringBuilder text = new StringBuilder(name + called + ": " + call + "(");
        for (int k = 0; k < args.length; k++) {
            given[k] = args[k];
            text.append(k == 0 ? "" : ", ").append(args[k]);
        }
        int got = (Integer) theClass.get(call).invoke(x, given);
        check.due(text.append(")").toString(), got, (Integer) theWords.get(call).invoke(whole, given));
        boolean isRefused = got < SpentWeeks.NONE && got > -1000300;
        answers.merge(call + (isRefused ? " refused" : ""), 1, Integer::sum);
    }

    private int upTo(int n) {
        return chance.nextInt(n);
    }

    /** Mostly a number that is within these bounds, often one of them, at times one that is not. */
    private int near(int least, int most) {
        switch (upTo(40)) {
            case 0: return least - 1;
            case 1: return most + 1;
            case 2: return upTo(2) == 0 ? Integer.MIN_VALUE + upTo(2) : Integer.MAX_VALUE - upTo(2);
            case 3: case 4: return least;
            case 5: case 6: return most;
            default: return most < least ? least : least + upTo(most - least + 1);
        }
    }

    private int someone() {
        return near(0, whole.people() - 1);
    }

    private int days() {
        return upTo(5) == 0 ? near(1, 999) : near(1, 30);
    }

    private int aRow() {
        return upTo(4) == 0 ? near(0, 7) : upTo(2);
    }

    private int place() {
        return upTo(3) == 0 ? near(0, 40) : upTo(3);
    }

    private int seed() {
        return near(1, 999999);
    }

    private void run() throws Exception {
        boolean isRich = upTo(6) == 0;
        for (int k = 0; k < 20; k++) {
            one(upTo(30));
        }
        tellCounty();
        while (called < CALLS) {
            if (isRich) {
                call("sentence", someone(), near(900, 999));
            }
            if (upTo(60) == 0) {
                tellCounty();
            } else if (upTo(14) == 0) {
                tellRow();
            } else {
                one(upTo(34));
                look();
            }
        }
    }

    /** A text that can be read, or one that was spoilt. */
    private void tellCounty() throws Exception {
        StringBuilder text = new StringBuilder("y" + (1 + upTo(upTo(2) == 0 ? 3 : 24)) + "," + (1 + upTo(30)) + ";");
        int people = upTo(9) == 0 ? upTo(8) : 2 + upTo(5);
        for (int k = 0; k < people; k++) {
            text.append("cshtp".charAt(upTo(5))).append(upTo(10)).append(',').append(upTo(upTo(2) == 0 ? 100 : 20));
            text.append(',').append(upTo(100)).append(';');
        }
        if (upTo(4) == 0) {
            int at = upTo(text.length());
            String spoilt = String.valueOf("ycshtp0519,;x \u00ff".charAt(upTo(15)));
            text.replace(at, at + upTo(2), spoilt);
        }
        // at times more than the tape can have
        int length = upTo(30) == 0 ? 122 : text.length();
        for (int k = 0; k < length; k++) {
            call("feed", text.charAt(k % text.length()));
        }
        call("county");
        call("fault");
        call("count", 6);
    }

    /** A ROW of weights, of SALES, of DAYS UNSPENT, or of anything. */
    private void tellRow() throws Exception {
        int row = upTo(2);
        int how = upTo(4);
        int n = how == 3 ? near(0, 40) : 6 + upTo(13);
        call("row", row, how == 3 ? near(0, 2) : 1 + upTo(2), n);
        int most = new int[] {4, 30, 300, 999}[upTo(4)];
        for (int k = 0; k < Math.min(n, 20); k++) {
            int sale = new int[] {someone(), someone(), 1 + upTo(12), upTo(100)}[k % 4];
            int unspent = whole.people() == 0 ? 0 : Math.max(0, whole.person(k % whole.people(), 0) - upTo(3) * upTo(40));
            int[] item = {1 + upTo(most), sale, unspent, near(Short.MIN_VALUE, 2 * Short.MAX_VALUE)};
            call("set", row, k, item[how]);
        }
        int from = upTo(3);
        if (how == 1) {
            call("ring", row, 4 * from, 1 + upTo(2), upTo(2));
        } else if (how == 2) {
            call("wrong", row, 0, -1);
            call("wrong", row, 0, someone());
        } else {
            weigh(row, from);
        }
    }

    private void weigh(int row, int from) throws Exception {
        call("cover", someone(), row, from, near(1, 12));
        int n = 1 + upTo(upTo(9) == 0 ? 6 : 4);
        call("bestOrder", someone(), row, from, n, -1);
        call("bestOrder", someone(), row, from, n, upTo(n));
        call("satFor", row, from, near(0, 12), near(0, 99), upTo(2));
    }

    /** What can be seen of somebody, and how the latest ask and finding stand. */
    private void look() throws Exception {
        switch (upTo(5)) {
            case 0: call("person", someone(), near(0, 6)); break;
            case 1: call("lot", someone(), near(0, 2), near(0, 1)); break;
            case 2: call("count", near(0, 6)); break;
            case 3: call("status"); break;
            default: call("trace", near(0, 16)); break;
        }
    }

    private void one(int which) throws Exception {
        switch (which) {
            case 0: call("row", aRow(), near(0, 2), near(0, 40)); break;
            case 1: call("set", aRow(), place(), chance.nextInt()); break;
            case 2: call("copy", aRow(), place(), aRow(), place(), place()); break;
            case 3: call("drop", near(0, 7)); break;
            case 4: call("feed", upTo(9) > 0 ? -1 : near(0, 255)); break;
            case 5: call("undo"); break;
            case 6: case 7: case 8: call("sentence", someone(), days()); break;
            case 9: case 10: call("deed", someone(), days()); break;
            case 11: case 12: call("sale", someone(), someone(), days(), near(0, 999)); break;
            case 13: call("pays", someone(), days()); break;
            case 14: call("dies", someone(), someone()); break;
            case 15: call("pardon", someone()); break;
            case 16: case 17: call("month", seed()); break;
            default: foretell(which); break;
        }
    }

    private void foretell(int which) throws Exception {
        switch (which) {
            case 18: call("ahead", someone(), near(0, 60), seed(), near(0, 3)); break;
            case 19: call("lapsed", someone(), near(0, upTo(2) == 0 ? 60 : 3)); break;
            case 20: call("triedFirst", near(0, 60), seed(), near(0, 1)); break;
            case 21: call("cover", someone(), aRow(), place(), near(1, 12)); break;
            case 22: call("bestOrder", someone(), aRow(), place(), near(1, 4), near(-1, 0)); break;
            case 23: call("market", near(0, 99), near(0, 1)); break;
            case 24: call("atRest", near(0, 2)); break;
            case 25: call("ring", aRow(), place(), near(1, 9), near(0, 1)); break;
            case 26: call("wrong", aRow(), place(), near(-1, whole.people() - 1)); break;
            case 27: call("satFor", aRow(), place(), near(0, 16), near(0, 9999), near(0, 1)); break;
            case 28: call("image", near(0, 1)); break;
            case 29: call("restore", near(0, 1)); break;
            case 30: call("kind", someone()); break;
            case 31: call("as", someone(), near(0, 5)); break;
            case 32: call("ask", someone(), near(0, 1)); break;
            default: call("county"); break;
        }
    }
}

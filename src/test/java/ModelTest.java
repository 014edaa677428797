import java.util.Arrays;
import java.util.Map;
import java.util.TreeMap;

/** Long runs of calls, made by a fixed row of numbers, on the class and on the model: the answers are the same. */
public final class ModelTest {
    private static final int RUNS = 3000;
    private static final int CALLS = 512;
    private static final int[] ODD = {Integer.MIN_VALUE, Integer.MIN_VALUE + 999, -1000, -1, 2, 3, 4, 10, 40, 41, 100, 101, 999, 1000, 10000, 10001, Integer.MAX_VALUE};
    private static final String[] NAMES = new TreeMap<>(Calls.ARGUMENTS).keySet().toArray(new String[0]);
    // Calls that change something come more often than those that ask.
    private static final String[] ACTING = {
        "add", "add", "give", "set", "set", "setRoom", "fetch", "fetch", "change", "change", "change", "change", "change", "make", "send", "send",
    };

    private static long seed;
    private static final Map<String, Integer> seen = new TreeMap<>();

    public static void main(String[] args) {
        for (int run = 0; run < RUNS; run++) {
            seed = run * 7919L + 17;
            compare(run);
        }
        for (String outcome : new String[] {"reason 0", "reason 1", "reason 2", "reason 3", "add IllegalStateException", "numberOf -1"}) {
            Due.same("the runs reach " + outcome, "true", "" + (seen.getOrDefault(outcome, 0) > 100));
        }
        Due.end();
    }

    private static void compare(int run) {
        FieldStore store = new FieldStore();
        Model model = new Model();
        int style = next(4);
        for (int i = 0; i < CALLS; i++) {
            String call = next(3) == 0 ? NAMES[next(NAMES.length)] : ACTING[next(ACTING.length)];
            if (style == 0 && call.equals("add") && next(8) > 0) {
                call = "make";
            }
            int[] a = arguments(call, style);
            String name = call;
            String due = Due.outcome(() -> model.answer(name, a));
            String got = Due.outcome(() -> Calls.answer(store, name, a));
            seen.merge(call + " " + due, 1, Integer::sum);
            Due.same("run " + run + " call " + i + ": " + call + Arrays.toString(a), due, got);
            if (!due.equals(got)) {
                return;
            }
        }
    }

    private static int[] arguments(String call, int style) {
        int[] a = new int[Calls.ARGUMENTS.get(call)];
        int jobs = style == 1 ? 4 : 40;
        boolean device = "setRoom fetch held holds heldValue change make numberOf send waiting pile reason refusedValue".contains(call);
        for (int i = 0; i < a.length; i++) {
            a[i] = next(12);
        }
        if (device && a.length > 0) {
            a[0] = next(style == 2 ? 1 : 4);
        }
        switch (call) {
            case "add": a[0] = next(4); a[1] = next(10); break;
            case "give": a[0] = next(jobs); a[1] = next(4); break;
            case "set": case "value": case "version": a[0] = next(jobs); a[1] = next(2); break;
            case "crew": case "site": a[0] = next(jobs); break;
            case "setRoom": a[1] = next(41); break;
            case "holds": case "heldValue": case "change": a[1] = next(3) == 0 ? 1000 + next(8) : next(jobs); break;
            case "numberOf": a[1] = 1000 + next(10); break;
            case "send": a[1] = 1 + next(next(2) == 0 ? 3 : 100); break;
            case "make": a[1] = next(10); break;
            default: break;
        }
        if (call.equals("heldValue") || call.equals("change")) {
            a[2] = next(2);
        }
        if (call.equals("set")) {
            a[2] = next(a[1] == 0 ? 3 : 10001);
        }
        if (call.equals("change")) {
            a[3] = next(a[2] == 0 ? 3 : 10001);
        }
        if (a.length > 0 && next(25) == 0) {
            a[next(a.length)] = ODD[next(ODD.length)];
        }
        return a;
    }

    private static int next(int below) {
        seed = seed * 6364136223846793005L + 1442695040888963407L;
        return (int) Math.floorMod(seed >>> 33, (long) below);
    }
}

import java.util.ArrayList;
import java.util.Arrays;
import java.util.List;
import java.util.Map;
import java.util.TreeMap;

/**
 * "A call that throws changes nothing": for every call that can throw, with arguments around all bounds, on several
 * objects; then the object answers all that can be asked, sent and fetched as one on which the call was not made.
 */
public final class ThrowTest {
    private static final int MIN = Integer.MIN_VALUE, MAX = Integer.MAX_VALUE;
    // So many calls that throw are made on one object, as it has 512 calls in all.
    private static final int TOGETHER = 80;
    private static final int[] DEVICES = {MIN, -1, 0, 3, 4, MAX};
    private static final int[] JOBS = {MIN, -1, 0, 3, 4, 7, 39, 40, 999, 1000, 1001, 1002, 1003, MAX};
    private static final int[] FIELDS = {-1, 0, 1, 2};

    /** The values that are tried for the arguments of each call, one row an argument. */
    private static final Map<String, int[][]> TRIED = new TreeMap<>(Map.ofEntries(
        Map.entry("add", new int[][] {{MIN, -1, 0, 3, 4, MAX}, {MIN, -1, 0, 9, 10, MAX}}),
        Map.entry("give", new int[][] {JOBS, {MIN, -1, 0, 3, 4, MAX}}),
        Map.entry("set", new int[][] {JOBS, FIELDS, {-1, 0, 2, 3, 10000, 10001}}),
        Map.entry("crew", new int[][] {JOBS}),
        Map.entry("site", new int[][] {JOBS}),
        Map.entry("value", new int[][] {JOBS, FIELDS}),
        Map.entry("version", new int[][] {JOBS, FIELDS}),
        Map.entry("setRoom", new int[][] {DEVICES, {MIN, -1, 0, 40, 41, MAX}}),
        Map.entry("fetch", new int[][] {DEVICES}),
        Map.entry("held", new int[][] {DEVICES}),
        Map.entry("holds", new int[][] {DEVICES, {-1, 0, 1000}}),
        Map.entry("heldValue", new int[][] {{-1, 0, 3, 4}, JOBS, FIELDS}),
        Map.entry("change", new int[][] {{-1, 0, 3, 4}, JOBS, FIELDS, {-1, 0, 2, 3, 10000, 10001}}),
        Map.entry("make", new int[][] {DEVICES, {MIN, -1, 0, 9, 10, MAX}}),
        Map.entry("numberOf", new int[][] {DEVICES, JOBS}),
        Map.entry("send", new int[][] {DEVICES, {MIN, -1, 0, 1, 100, 101, MAX}}),
        Map.entry("waiting", new int[][] {DEVICES}),
        Map.entry("pile", new int[][] {DEVICES}),
        Map.entry("reason", new int[][] {DEVICES, {MIN, -1, 0, 1, 2, 3, 4, MAX}}),
        Map.entry("refusedValue", new int[][] {DEVICES, {MIN, -1, 0, 1, 2, 3, 4, MAX}})));

    private static final String NEW = "";
    // Jobs in all states, some of them given away; each device made jobs, sent and not; refused acts, and some that wait.
    private static final String BUSY = """
        add 0 1 = 0
        add 1 2 = 1
        add 0 3 = 2
        add 3 4 = 3
        fetch 0 = 2
        fetch 1 = 1
        fetch 3 = 1
        change 0 0 0 2 = 1
        change 0 2 1 5 = 2
        make 0 6 = 1000
        change 0 1000 0 1 = 4
        make 0 7 = 1001
        send 0 3 = 2
        change 0 1000 1 6 = 3
        change 0 2 0 1 = 4
        give 2 1 = 0
        set 4 1 9 = 1
        make 3 8 = 1000
        change 3 3 0 1 = 2
        change 3 3 1 44 = 3
        change 3 3 0 2 = 4
        send 3 2 = 2
        setRoom 3 1 = 10
        setRoom 1 0 = 10
        change 1 1 1 3 = 1
        """;
    private static final String FULL = """
        10 times add 0 0
        15 times add 1 1
        14 times add 3 3
        fetch 0 = 10
        make 0 5 = 1000
        make 0 6 = 1001
        make 3 7 = 1000
        change 0 1001 1 5 = 3
        change 0 7 0 1 = 4
        change 0 1000 1 6 = 5
        send 0 3 = 1
        fetch 3 = 11
        change 3 1000 0 1 = 2
        give 7 3 = 0
        make 0 9 = 1002
        """;

    public static void main(String[] args) {
        changesNothing("a new object", NEW);
        changesNothing("a busy object", BUSY);
        changesNothing("a full object", FULL);
        Due.end();
    }

    private static void changesNothing(String what, String start) {
        Run.due(what, start);
        List<Run.Row> before = Run.rows(start);
        List<List<Run.Row>> looks = looks();
        List<List<String>> due = new ArrayList<>();
        for (List<Run.Row> look : looks) {
            Due.same(what + ": calls at the most 512", "true", "" + (before.size() + TOGETHER + look.size() <= 512));
            due.add(outcomes(started(before), look));
        }
        for (Map.Entry<String, int[][]> entry : TRIED.entrySet()) {
            List<int[]> throwing = allOf(entry.getValue());
            throwing.removeIf(arguments -> !throwsOn(started(before), entry.getKey(), arguments));
            Due.same(what + ": " + entry.getKey() + " throws", "true", "" + !throwing.isEmpty());
            for (int from = 0; from < throwing.size(); from += TOGETHER) {
                List<int[]> together = throwing.subList(from, Math.min(from + TOGETHER, throwing.size()));
                for (int i = 0; i < looks.size(); i++) {
                    compare(what, before, entry.getKey(), together, looks.get(i), due.get(i));
                }
            }
        }
    }

    private static void compare(String what, List<Run.Row> before, String call, List<int[]> together, List<Run.Row> look,
            List<String> due) {
        FieldStore store = started(before);
        for (int[] arguments : together) {
            Due.same(what + ": " + call + Arrays.toString(arguments) + " throws", "true", "" + throwsOn(store, call, arguments));
        }
        List<String> got = outcomes(store, look);
        String after = what + ", after " + call + " threw for " + Arrays.deepToString(together.toArray()) + ": ";
        for (int j = 0; j < got.size(); j++) {
            Due.same(after + look.get(j).text(), due.get(j), got.get(j));
        }
    }

    private static FieldStore started(List<Run.Row> rows) {
        FieldStore store = new FieldStore();
        outcomes(store, rows);
        return store;
    }

    private static List<String> outcomes(FieldStore store, List<Run.Row> rows) {
        List<String> outcomes = new ArrayList<>();
        for (Run.Row row : rows) {
            outcomes.add(Due.outcome(() -> Calls.answer(store, row.call(), row.arguments())));
        }
        return outcomes;
    }

    private static boolean throwsOn(FieldStore store, String call, int[] arguments) {
        return Due.outcome(() -> Calls.answer(store, call, arguments)).endsWith("Exception");
    }

    private static List<int[]> allOf(int[][] tried) {
        List<int[]> all = new ArrayList<>();
        all.add(new int[0]);
        for (int[] values : tried) {
            List<int[]> longer = new ArrayList<>();
            for (int[] start : all) {
                for (int value : values) {
                    int[] more = Arrays.copyOf(start, start.length + 1);
                    more[start.length] = value;
                    longer.add(more);
                }
            }
            all = longer;
        }
        return all;
    }

    /** Runs of calls that together show all that an object holds; each is made on an object of its own. */
    private static List<List<Run.Row>> looks() {
        List<List<Run.Row>> looks = new ArrayList<>();
        StringBuilder fetching = new StringBuilder();
        StringBuilder numbering = new StringBuilder("add 2 0\n");
        for (int d = 0; d < 4; d++) {
            looks.add(Run.rows(heldOn(d)));
            looks.add(Run.rows("20 times send " + d + " 1\ndone\npile " + d + "\n" + central()));
            looks.add(Run.rows(changedOn(d)));
            fetching.append("fetch " + d + "\nsetRoom " + d + " 5\n").append(each("holds " + d + " JOB\n", 0, 42));
            numbering.append("make " + d + " 0\nsend " + d + " 100\n").append(each("numberOf " + d + " JOB\n", 1000, 1005));
        }
        looks.add(Run.rows(central()));
        looks.add(Run.rows(fetching.toString()));
        looks.add(Run.rows(numbering.append("jobs\n").toString()));
        return looks;
    }

    private static String central() {
        return "jobs\ndone\n" + each("crew JOB\nsite JOB\nvalue JOB 0\nvalue JOB 1\nversion JOB 0\nversion JOB 1\n", 0, 40);
    }

    private static String heldOn(int d) {
        String fields = "holds D JOB\nheldValue D JOB 0\nheldValue D JOB 1\n";
        return ("held D\nwaiting D\npile D\n" + each("reason D JOB\nrefusedValue D JOB\n", 0, 5)
            + each(fields, 0, 41) + each(fields, 1000, 1005)).replace("D", "" + d);
    }

    /** The versions that a device holds come out when changes with them are sent. */
    private static String changedOn(int d) {
        String changes = "change D JOB 0 1\nchange D JOB 1 2\n";
        return ("20 times send D 1\n" + each(changes, 0, 40) + each(changes, 1000, 1004) + "100 times send D 1\npile D\n"
            + each("reason D JOB\nrefusedValue D JOB\n", 0, 50)).replace("D", "" + d);
    }

    private static String each(String rows, int from, int to) {
        StringBuilder all = new StringBuilder();
        for (int job = from; job < to; job++) {
            all.append(rows.replace("JOB", "" + job));
        }
        return all.toString();
    }
}

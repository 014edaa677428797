/** Promises 1 to 9: a new object and the central store. */
public final class CentralTest {
    private static final int MIN = Integer.MIN_VALUE, MAX = Integer.MAX_VALUE;

    public static void main(String[] args) {
        newObject();
        add();
        give();
        set();
        order();
        Due.end();
    }

    private static void newObject() {
        FieldStore x = new FieldStore();
        Due.answers("1: jobs", 0, () -> x.jobs());
        Due.answers("1: done", 0, () -> x.done());
        for (int d = 0; d < 4; d++) {
            int device = d;
            Due.answers("1: held", 0, () -> x.held(device));
            Due.answers("1: holds", 0, () -> Due.bit(x.holds(device, 0)));
            Due.answers("1: holds own", 0, () -> Due.bit(x.holds(device, 1000)));
            Due.answers("1: waiting", 0, () -> x.waiting(device));
            Due.answers("1: pile", 0, () -> x.pile(device));
            Due.answers("1: fetch", 0, () -> x.fetch(device));
            Due.answers("1: room", 10, () -> x.setRoom(device, 10));
        }
    }

    private static void add() {
        FieldStore x = new FieldStore();
        int[] bad = {MIN, -1, 4, 10, MAX};
        for (int b : bad) {
            Due.fails("2: crew " + b, Due.RANGE, () -> x.add(b, 0));
        }
        int[] badSites = {MIN, -1, 10, MAX};
        for (int b : badSites) {
            Due.fails("2: site " + b, Due.RANGE, () -> x.add(0, b));
        }
        Due.answers("5: jobs after refusals", 0, () -> x.jobs());
        for (int i = 0; i < 40; i++) {
            int job = i;
            Due.answers("2: add", job, () -> x.add(job % 4, job % 10));
            Due.answers("5: jobs", job + 1, () -> x.jobs());
            Due.answers("6: crew", job % 4, () -> x.crew(job));
            Due.answers("7: site", job % 10, () -> x.site(job));
            for (int field = 0; field < 2; field++) {
                int f = field;
                Due.answers("8: first value", 0, () -> x.value(job, f));
                Due.answers("9: first version", 0, () -> x.version(job, f));
            }
        }
        Due.fails("2: the 41st", Due.STATE, () -> x.add(0, 0));
        Due.fails("2: the 41st, crew wrong", Due.RANGE, () -> x.add(4, 0));
        Due.fails("2: the 41st, site wrong", Due.RANGE, () -> x.add(0, 10));
        Due.answers("5: jobs at the end", 40, () -> x.jobs());
        Due.answers("23: adding is no act", 0, () -> x.done());
    }

    private static void give() {
        FieldStore x = new FieldStore();
        Due.fails("3: no job", Due.PLACE, () -> x.give(0, 1));
        x.add(2, 3);
        Due.answers("3: before", 2, () -> x.give(0, 3));
        Due.answers("6: crew", 3, () -> x.crew(0));
        Due.answers("3: to the same", 3, () -> x.give(0, 3));
        Due.answers("3: back", 3, () -> x.give(0, 0));
        Due.fails("3: crew 4", Due.RANGE, () -> x.give(0, 4));
        Due.fails("3: crew -1", Due.RANGE, () -> x.give(0, -1));
        Due.fails("3: job 1", Due.PLACE, () -> x.give(1, 0));
        Due.fails("3: job -1", Due.PLACE, () -> x.give(-1, 0));
        Due.answers("6: crew kept", 0, () -> x.crew(0));
        Due.answers("7: site kept", 3, () -> x.site(0));
        Due.answers("9: giving is no change of a field", 0, () -> x.version(0, 0) + x.version(0, 1));
    }

    private static void set() {
        FieldStore x = new FieldStore();
        x.add(0, 0);
        x.add(0, 0);
        int[] states = {2, 0, 1, 0, 0, 2, 1, 1};
        for (int i = 0; i < states.length; i++) {
            int state = states[i];
            Due.answers("4: state", i + 1, () -> x.set(0, 0, state));
            Due.answers("8: state", state, () -> x.value(0, 0));
            Due.answers("9: state", i + 1, () -> x.version(0, 0));
        }
        Due.answers("9: note of its own", 0, () -> x.version(0, 1));
        Due.answers("4: note 10000", 1, () -> x.set(0, 1, 10000));
        Due.answers("4: same note", 2, () -> x.set(0, 1, 10000));
        Due.answers("8: note", 10000, () -> x.value(0, 1));
        Due.answers("4: note 0", 3, () -> x.set(0, 1, 0));
        Due.answers("8: state kept", 1, () -> x.value(0, 0));
        int[][] wrong = {{0, -1}, {0, 3}, {0, 10000}, {1, -1}, {1, 10001}, {1, MAX}, {1, MIN}, {2, 0}, {-1, 0}, {MAX, 0}, {MIN, 0}};
        for (int[] w : wrong) {
            Due.fails("4: field " + w[0] + " value " + w[1], Due.RANGE, () -> x.set(0, w[0], w[1]));
        }
        Due.answers("9: state after refusals", states.length, () -> x.version(0, 0));
        Due.answers("9: note after refusals", 3, () -> x.version(0, 1));
        Due.answers("9: the other job", 0, () -> x.version(1, 0) + x.version(1, 1));
        Due.answers("23: setting is no act", 0, () -> x.done());
    }

    private static void order() {
        FieldStore x = new FieldStore();
        x.add(0, 0);
        int[] none = {MIN, -1, 1, 40, 1000, MAX};
        for (int job : none) {
            Due.fails("3: job first", Due.PLACE, () -> x.give(job, 9));
            Due.fails("4: job first", Due.PLACE, () -> x.set(job, 9, -1));
            Due.fails("6: no job", Due.PLACE, () -> x.crew(job));
            Due.fails("7: no job", Due.PLACE, () -> x.site(job));
            Due.fails("8: job first", Due.PLACE, () -> x.value(job, 2));
            Due.fails("9: job first", Due.PLACE, () -> x.version(job, 2));
        }
        int[] fields = {MIN, -1, 2, MAX};
        for (int field : fields) {
            Due.fails("8: field", Due.RANGE, () -> x.value(0, field));
            Due.fails("9: field", Due.RANGE, () -> x.version(0, field));
        }
    }
}

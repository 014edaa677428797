/** Promises 18 to 23: sending, what waits, piles and what was done. */
public final class SendTest {
    private static final int MIN = Integer.MIN_VALUE, MAX = Integer.MAX_VALUE;

    public static void main(String[] args) {
        most();
        reasons();
        reasonOrder();
        steps();
        fromTheStore();
        clashWithOthers();
        sendingKeepsWhatIsHeld();
        madeJobs();
        full();
        manyActs();
        Due.end();
    }

    private static void most() {
        FieldStore x = new FieldStore();
        x.add(0, 0);
        x.fetch(0);
        for (int i = 0; i < 5; i++) {
            x.change(0, 0, 1, i);
        }
        int[] wrong = {MIN, -1, 0, 101, MAX};
        for (int w : wrong) {
            Due.fails("18: most " + w, Due.RANGE, () -> x.send(0, w));
        }
        Due.answers("19: after refusals", 5, () -> x.waiting(0));
        Due.answers("18: two", 2, () -> x.send(0, 2));
        Due.answers("8: in their order", 1, () -> x.value(0, 1));
        Due.answers("19: three wait", 3, () -> x.waiting(0));
        Due.answers("18: the rest", 3, () -> x.send(0, 100));
        Due.answers("18: nothing waits", 0, () -> x.send(0, 1));
        Due.answers("9: version", 5, () -> x.version(0, 1));
        Due.answers("23: done", 5, () -> x.done());
        Due.answers("20: pile", 0, () -> x.pile(0));
    }

    private static void reasons() {
        FieldStore x = new FieldStore();
        for (int i = 0; i < 4; i++) {
            x.add(0, 0);
        }
        x.fetch(0);
        x.change(0, 0, 1, 10);
        x.change(0, 1, 1, 11);
        x.change(0, 2, 0, 2);
        x.change(0, 3, 1, 13);
        x.give(0, 1);
        x.set(1, 1, 0);
        Due.answers("18: one is done", 1, () -> x.send(0, 4));
        int[][] pile = {{FieldStore.LOST, 10}, {FieldStore.CLASH, 11}, {FieldStore.STEP, 2}};
        Due.answers("20: pile", 3, () -> x.pile(0));
        Due.answers("20: pile of another device", 0, () -> x.pile(1));
        for (int place = 0; place < pile.length; place++) {
            int p = place;
            Due.answers("21: place " + p, pile[p][0], () -> x.reason(0, p));
            Due.answers("22: place " + p, pile[p][1], () -> x.refusedValue(0, p));
        }
        int[] none = {MIN, -1, 3, MAX};
        for (int p : none) {
            Due.fails("21: place " + p, Due.PLACE, () -> x.reason(0, p));
            Due.fails("22: place " + p, Due.PLACE, () -> x.refusedValue(0, p));
        }
        Due.fails("21: another device", Due.PLACE, () -> x.reason(1, 0));
        Due.answers("23: done", 1, () -> x.done());
        Due.answers("8: refused ones change nothing", 0, () -> x.value(0, 1) + x.value(1, 1) + x.value(2, 0));
        Due.answers("9: nor a version", 0, () -> x.version(0, 1) + x.version(2, 0));
        Due.answers("8: done", 13, () -> x.value(3, 1));
        x.change(0, 3, 0, 2);
        x.send(0, 1);
        Due.answers("20: grows", 4, () -> x.pile(0));
        Due.answers("21: the first one stays", FieldStore.LOST, () -> x.reason(0, 0));
    }

    private static void reasonOrder() {
        FieldStore x = new FieldStore();
        x.add(0, 0);
        x.add(0, 0);
        x.fetch(0);
        x.change(0, 0, 0, 2);
        x.change(0, 1, 0, 2);
        x.set(0, 0, 0);
        x.set(1, 0, 0);
        x.give(0, 1);
        x.send(0, 2);
        Due.answers("21: LOST ahead of CLASH and STEP", FieldStore.LOST, () -> x.reason(0, 0));
        Due.answers("21: CLASH ahead of STEP", FieldStore.CLASH, () -> x.reason(0, 1));
        x.give(0, 0);
        x.fetch(0);
        x.change(0, 0, 1, 4);
        x.give(0, 1);
        x.give(0, 0);
        Due.answers("18: given back in time", 1, () -> x.send(0, 1));
    }

    private static void steps() {
        for (int from = 0; from <= 2; from++) {
            for (int to = 0; to <= 2; to++) {
                FieldStore x = new FieldStore();
                x.add(0, 0);
                x.set(0, 0, from);
                x.fetch(0);
                x.change(0, 0, 0, to);
                boolean step = from == 0 && to == 1 || from == 1 && to == 2;
                int end = step ? to : from;
                Due.answers("18: " + from + " to " + to, step ? 1 : 0, () -> x.send(0, 1));
                Due.answers("8: " + from + " to " + to, end, () -> x.value(0, 0));
                Due.answers("9: " + from + " to " + to, step ? 2 : 1, () -> x.version(0, 0));
                if (!step) {
                    Due.answers("21: " + from + " to " + to, FieldStore.STEP, () -> x.reason(0, 0));
                }
            }
        }
    }

    /** The versions agree though the states do not: the step is one of the state in the central store. */
    private static void fromTheStore() {
        FieldStore x = new FieldStore();
        x.add(0, 0);
        x.fetch(0);
        x.change(0, 0, 0, 2);
        x.change(0, 0, 0, 2);
        x.set(0, 0, 1);
        Due.answers("18: the second one is a step", 1, () -> x.send(0, 2));
        Due.answers("21: the first one clashed", FieldStore.CLASH, () -> x.reason(0, 0));
        Due.answers("8: state", 2, () -> x.value(0, 0));
    }

    private static void clashWithOthers() {
        FieldStore x = new FieldStore();
        x.add(0, 0);
        x.fetch(0);
        x.change(0, 0, 0, 1);
        x.change(0, 0, 1, 9);
        x.set(0, 1, 0);
        Due.answers("18: the other field does not clash", 1, () -> x.send(0, 2));
        Due.answers("22: the note does", 9, () -> x.refusedValue(0, 0));
        x.fetch(0);
        x.give(0, 1);
        x.fetch(1);
        x.change(0, 0, 1, 1);
        x.change(1, 0, 1, 2);
        Due.answers("18: of the crew", 1, () -> x.send(1, 1));
        x.give(0, 0);
        Due.answers("18: too late", 0, () -> x.send(0, 1));
        Due.answers("21: CLASH", FieldStore.CLASH, () -> x.reason(0, 1));
        Due.answers("23: of all devices", 2, () -> x.done());
    }

    private static void sendingKeepsWhatIsHeld() {
        FieldStore x = new FieldStore();
        x.add(0, 0);
        x.fetch(0);
        x.change(0, 0, 0, 2);
        x.change(0, 0, 1, 3);
        x.send(0, 100);
        Due.answers("14: the refused state is held", 2, () -> x.heldValue(0, 0, 0));
        x.change(0, 0, 0, 1);
        x.send(0, 1);
        Due.answers("21: its version is held, too", FieldStore.CLASH, () -> x.reason(0, 1));
        x.give(0, 1);
        x.change(0, 0, 1, 4);
        x.send(0, 1);
        Due.answers("13: a lost job is held", 1, () -> Due.bit(x.holds(0, 0)));
        Due.answers("14: with its value", 4, () -> x.heldValue(0, 0, 1));
    }

    private static void madeJobs() {
        FieldStore x = new FieldStore();
        x.make(1, 6);
        x.change(1, 1000, 0, 1);
        x.change(1, 1000, 1, 70);
        x.make(2, 7);
        Due.answers("18: another device first", 1, () -> x.send(2, 1));
        Due.answers("17: next number", 0, () -> x.numberOf(2, 1000));
        Due.answers("18: making and a change", 2, () -> x.send(1, 2));
        Due.answers("17: next number", 1, () -> x.numberOf(1, 1000));
        Due.answers("6: crew of the device", 1, () -> x.crew(1));
        Due.answers("7: site", 6, () -> x.site(1));
        Due.answers("8: started", 1, () -> x.value(1, 0));
        Due.answers("8: note not yet", 0, () -> x.value(1, 1));
        Due.answers("14: but held", 70, () -> x.heldValue(1, 1, 1));
        x.give(1, 3);
        x.change(1, 1, 1, 71);
        Due.answers("18: lost by own number and by number", 0, () -> x.send(1, 2));
        Due.answers("21: own number", FieldStore.LOST, () -> x.reason(1, 0));
        Due.answers("21: number", FieldStore.LOST, () -> x.reason(1, 1));
        Due.answers("22: values", 70071, () -> x.refusedValue(1, 0) * 1000 + x.refusedValue(1, 1));
        Due.answers("12: held till it fetches", 1, () -> x.held(1));
        Due.answers("11: gone then", 0, () -> x.fetch(1));
        Due.answers("16: own numbers go on", 1001, () -> x.make(1, 0));
        Due.answers("23: done", 3, () -> x.done());
    }

    private static void full() {
        FieldStore x = new FieldStore();
        for (int i = 0; i < 39; i++) {
            x.add(0, 0);
        }
        x.make(0, 1);
        x.make(0, 8);
        x.change(0, 1001, 0, 1);
        x.change(0, 1000, 0, 1);
        Due.answers("18: one has room", 2, () -> x.send(0, 100));
        Due.answers("5: jobs", 40, () -> x.jobs());
        Due.answers("17: the last number", 39, () -> x.numberOf(0, 1000));
        Due.answers("17: refused", -1, () -> x.numberOf(0, 1001));
        Due.answers("20: pile", 2, () -> x.pile(0));
        Due.answers("21: making", FieldStore.FULL, () -> x.reason(0, 0));
        Due.answers("22: the site", 8, () -> x.refusedValue(0, 0));
        Due.answers("21: its change", FieldStore.FULL, () -> x.reason(0, 1));
        Due.answers("22: its value", 1, () -> x.refusedValue(0, 1));
        Due.answers("12: both are held", 2, () -> x.held(0));
        x.setRoom(0, 0);
        Due.answers("11: a refused one stays", 1, () -> x.fetch(0));
        Due.answers("14: as it is", 1, () -> x.heldValue(0, 1001, 0));
        Due.answers("15: can be changed", 1, () -> x.change(0, 1001, 1, 33));
        Due.answers("14: is changed", 33, () -> x.heldValue(0, 1001, 1));
        Due.answers("18: refused again", 0, () -> x.send(0, 1));
        Due.answers("21: FULL", FieldStore.FULL, () -> x.reason(0, 2));
        Due.answers("22: value", 33, () -> x.refusedValue(0, 2));
    }

    private static void manyActs() {
        FieldStore x = new FieldStore();
        for (int i = 0; i < 250; i++) {
            int own = 1000 + i;
            Due.answers("16: many", own, () -> x.make(0, 5));
        }
        Due.answers("12: many", 250, () -> x.held(0));
        Due.answers("18: at the most 40", 40, () -> x.send(0, 100));
        Due.answers("20: pile", 60, () -> x.pile(0));
        Due.answers("19: waiting", 150, () -> x.waiting(0));
        Due.answers("18: full", 0, () -> x.send(0, 100));
        Due.answers("12: many still", 250, () -> x.held(0));
        Due.answers("11: ten of the store", 220, () -> x.fetch(0));
        Due.answers("17: last", 39, () -> x.numberOf(0, 1039));
        Due.answers("17: none", -1, () -> x.numberOf(0, 1040));
    }
}

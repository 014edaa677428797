/** Promises 10 to 17: rooms, fetching, what is held, changes and jobs that devices make. */
public final class DeviceTest {
    private static final int MIN = Integer.MIN_VALUE, MAX = Integer.MAX_VALUE;

    public static void main(String[] args) {
        setRoom();
        fetchOrder();
        fetchReplaces();
        heldValues();
        change();
        make();
        ownNumbers();
        wrongDevices();
        Due.end();
    }

    private static void setRoom() {
        FieldStore x = new FieldStore();
        for (int i = 0; i < 40; i++) {
            x.add(1, 0);
        }
        Due.answers("11: room at first", 10, () -> x.fetch(1));
        Due.answers("10: before", 10, () -> x.setRoom(1, 3));
        Due.answers("10: not before the next fetching", 10, () -> x.held(1));
        Due.answers("11: room 3", 3, () -> x.fetch(1));
        Due.answers("10: before", 3, () -> x.setRoom(1, 40));
        Due.answers("11: room 40", 40, () -> x.fetch(1));
        Due.answers("13: the last one", 1, () -> Due.bit(x.holds(1, 39)));
        Due.fails("10: room 41", Due.RANGE, () -> x.setRoom(1, 41));
        Due.fails("10: room -1", Due.RANGE, () -> x.setRoom(1, -1));
        Due.fails("10: room MAX", Due.RANGE, () -> x.setRoom(1, MAX));
        Due.answers("10: before", 40, () -> x.setRoom(1, 0));
        Due.answers("10: room of another device", 10, () -> x.setRoom(0, 0));
        Due.answers("11: room 0", 0, () -> x.fetch(1));
        Due.answers("13: none", 0, () -> Due.bit(x.holds(1, 0)));
    }

    private static void fetchOrder() {
        FieldStore x = new FieldStore();
        int[] states = {2, 0, 1, 0, 1, 2};
        for (int job = 0; job < states.length; job++) {
            x.add(0, 0);
            x.set(job, 0, states[job]);
        }
        x.add(1, 0);
        x.set(6, 0, 1);
        int[] order = {2, 4, 1, 3, 0, 5};
        for (int room = 0; room <= 8; room++) {
            int most = Math.min(room, order.length);
            x.setRoom(0, room);
            Due.answers("11: room " + room, most, () -> x.fetch(0));
            Due.answers("12: room " + room, most, () -> x.held(0));
            for (int place = 0; place < order.length; place++) {
                int p = place;
                Due.answers("11: room " + room + " place " + p, p < most ? 1 : 0, () -> Due.bit(x.holds(0, order[p])));
            }
            Due.answers("11: of another crew", 0, () -> Due.bit(x.holds(0, 6)));
        }
    }

    private static void fetchReplaces() {
        FieldStore x = new FieldStore();
        x.add(0, 0);
        x.add(0, 0);
        x.fetch(0);
        x.change(0, 0, 1, 77);
        x.set(0, 1, 5);
        x.set(1, 1, 6);
        x.give(1, 2);
        Due.answers("13: still held", 1, () -> Due.bit(x.holds(0, 1)));
        Due.answers("14: as it was", 0, () -> x.heldValue(0, 1, 1));
        Due.answers("11: given away", 1, () -> x.fetch(0));
        Due.answers("13: dropped", 0, () -> Due.bit(x.holds(0, 1)));
        Due.answers("14: value of now", 5, () -> x.heldValue(0, 0, 1));
        Due.answers("19: acts stay", 1, () -> x.waiting(0));
        x.give(1, 0);
        x.set(1, 0, 2);
        Due.answers("11: given back", 2, () -> x.fetch(0));
        Due.answers("14: state of now", 2, () -> x.heldValue(0, 1, 0));
        Due.answers("14: note of now", 6, () -> x.heldValue(0, 1, 1));
        x.change(0, 1, 1, 8);
        Due.answers("18: versions of now: the first act clashes, the second one not", 1, () -> x.send(0, 100));
        Due.answers("8: note", 8, () -> x.value(1, 1));
    }

    private static void heldValues() {
        FieldStore x = new FieldStore();
        x.add(0, 0);
        x.add(1, 0);
        Due.fails("14: not fetched", Due.STATE, () -> x.heldValue(0, 0, 0));
        x.fetch(0);
        Due.answers("14: state", 0, () -> x.heldValue(0, 0, 0));
        int[] others = {MIN, -1000, -1, 1, 2, 39, 40, 999, 1000, 1001, MAX};
        for (int job : others) {
            Due.answers("13: " + job, 0, () -> Due.bit(x.holds(0, job)));
            Due.fails("14: " + job, Due.STATE, () -> x.heldValue(0, job, 0));
            Due.fails("15: " + job, Due.STATE, () -> x.change(0, job, 0, 0));
            Due.fails("14: field first, " + job, Due.RANGE, () -> x.heldValue(0, job, 2));
            Due.fails("15: field first, " + job, Due.RANGE, () -> x.change(0, job, -1, 0));
            Due.fails("15: value first, " + job, Due.RANGE, () -> x.change(0, job, 0, 3));
        }
        Due.answers("19: nothing was done", 0, () -> x.waiting(0));
    }

    private static void change() {
        FieldStore x = new FieldStore();
        x.add(0, 0);
        x.fetch(0);
        int[] states = {2, 0, 1, 1};
        for (int i = 0; i < states.length; i++) {
            int state = states[i];
            Due.answers("15: any state", i + 1, () -> x.change(0, 0, 0, state));
            Due.answers("14: state", state, () -> x.heldValue(0, 0, 0));
        }
        Due.answers("15: note 10000", 5, () -> x.change(0, 0, 1, 10000));
        Due.answers("14: note", 10000, () -> x.heldValue(0, 0, 1));
        Due.answers("15: note 0", 6, () -> x.change(0, 0, 1, 0));
        Due.answers("8: the store has no change", 0, () -> x.value(0, 0) + x.version(0, 0) + x.version(0, 1));
        int[][] wrong = {{0, -1}, {0, 3}, {1, -1}, {1, 10001}, {2, 0}, {-1, 0}, {MAX, MAX}, {MIN, MIN}};
        for (int[] w : wrong) {
            Due.fails("15: field " + w[0] + " value " + w[1], Due.RANGE, () -> x.change(0, 0, w[0], w[1]));
        }
        Due.answers("19: waiting", 6, () -> x.waiting(0));
        Due.answers("19: another device", 0, () -> x.waiting(1));
        Due.answers("14: state after refusals", 1, () -> x.heldValue(0, 0, 0));
    }

    private static void make() {
        FieldStore x = new FieldStore();
        Due.fails("16: site -1", Due.RANGE, () -> x.make(3, -1));
        Due.fails("16: site 10", Due.RANGE, () -> x.make(3, 10));
        Due.answers("16: first", 1000, () -> x.make(3, 9));
        Due.answers("16: second", 1001, () -> x.make(3, 0));
        Due.answers("16: by device", 1000, () -> x.make(1, 0));
        Due.answers("19: making is an act", 2, () -> x.waiting(3));
        Due.answers("12: held", 2, () -> x.held(3));
        Due.answers("5: not in the store", 0, () -> x.jobs());
        Due.answers("14: open", 0, () -> x.heldValue(3, 1001, 0));
        Due.answers("14: note 0", 0, () -> x.heldValue(3, 1001, 1));
        Due.answers("13: 1002", 0, () -> Due.bit(x.holds(3, 1002)));
        Due.answers("13: 999", 0, () -> Due.bit(x.holds(3, 999)));
        Due.answers("13: another device's", 0, () -> Due.bit(x.holds(1, 1001)));
        x.change(3, 1000, 0, 2);
        x.setRoom(3, 0);
        Due.answers("11: made jobs stay besides", 2, () -> x.fetch(3));
        Due.answers("14: as they are", 2, () -> x.heldValue(3, 1000, 0));
        x.add(3, 0);
        x.setRoom(3, 1);
        Due.answers("11: they do not count for the room", 3, () -> x.fetch(3));
    }

    private static void ownNumbers() {
        FieldStore x = new FieldStore();
        x.add(0, 0);
        x.make(0, 4);
        x.make(0, 5);
        int[] none = {MIN, -1, 0, 1, 999, 1002, MAX};
        for (int own : none) {
            Due.fails("17: " + own, Due.RANGE, () -> x.numberOf(0, own));
        }
        Due.fails("17: another device's", Due.RANGE, () -> x.numberOf(1, 1000));
        Due.answers("17: not sent", -1, () -> x.numberOf(0, 1000));
        x.change(0, 1000, 1, 50);
        x.send(0, 1);
        Due.answers("17: sent", 1, () -> x.numberOf(0, 1000));
        Due.answers("17: the other not yet", -1, () -> x.numberOf(0, 1001));
        Due.answers("13: number", 1, () -> Due.bit(x.holds(0, 1)));
        Due.answers("13: own number", 1, () -> Due.bit(x.holds(0, 1000)));
        Due.answers("12: held once", 2, () -> x.held(0));
        Due.answers("14: note by number", 50, () -> x.heldValue(0, 1, 1));
        x.change(0, 1, 1, 51);
        Due.answers("14: note by own number", 51, () -> x.heldValue(0, 1000, 1));
        Due.answers("8: the store has the job as made", 0, () -> x.value(1, 1) + x.version(1, 1));
        x.setRoom(0, 1);
        Due.answers("11: held as the others from then on", 2, () -> x.fetch(0));
        Due.answers("13: no room, by own number", 0, () -> Due.bit(x.holds(0, 1000)));
        Due.fails("14: no room, by own number", Due.STATE, () -> x.heldValue(0, 1000, 0));
        x.set(1, 0, 1);
        x.fetch(0);
        Due.answers("14: own number of a fetched job", 1, () -> x.heldValue(0, 1000, 0));
        x.give(1, 1);
        x.fetch(1);
        Due.answers("13: fetched by another device", 1, () -> Due.bit(x.holds(1, 1)));
        Due.answers("13: own number of another device", 0, () -> Due.bit(x.holds(1, 1000)));
    }

    private static void wrongDevices() {
        FieldStore x = new FieldStore();
        x.add(0, 0);
        int[] none = {MIN, -1, 4, 5, 1000, MAX};
        for (int d : none) {
            Due.fails("10: device", Due.PLACE, () -> x.setRoom(d, 41));
            Due.fails("11: device", Due.PLACE, () -> x.fetch(d));
            Due.fails("12: device", Due.PLACE, () -> x.held(d));
            Due.fails("13: device", Due.PLACE, () -> Due.bit(x.holds(d, 0)));
            Due.fails("14: device", Due.PLACE, () -> x.heldValue(d, 0, 2));
            Due.fails("15: device", Due.PLACE, () -> x.change(d, 0, 2, -1));
            Due.fails("16: device", Due.PLACE, () -> x.make(d, 10));
            Due.fails("17: device", Due.PLACE, () -> x.numberOf(d, 0));
            Due.fails("18: device", Due.PLACE, () -> x.send(d, 0));
            Due.fails("19: device", Due.PLACE, () -> x.waiting(d));
            Due.fails("20: device", Due.PLACE, () -> x.pile(d));
            Due.fails("21: device", Due.PLACE, () -> x.reason(d, 0));
            Due.fails("22: device", Due.PLACE, () -> x.refusedValue(d, 0));
        }
    }
}

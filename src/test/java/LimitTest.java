/** The edges of an object's life: 512 calls of one kind, and none that throws by itself after them. */
public final class LimitTest {
    public static void main(String[] args) {
        madeJobs();
        changes();
        afterTheLast();
        Due.end();
    }

    private static void madeJobs() {
        FieldStore x = new FieldStore();
        for (int i = 0; i < 511; i++) {
            int own = 1000 + i;
            Due.answers("16: make", own, () -> x.make(3, 0));
        }
        Due.answers("12: held", 511, () -> x.held(3));
    }

    private static void changes() {
        FieldStore x = new FieldStore();
        x.make(0, 0);
        for (int i = 2; i <= 506; i++) {
            int waiting = i;
            Due.answers("15: change", waiting, () -> x.change(0, 1000, 1, waiting));
        }
        Due.answers("18: send", 100, () -> x.send(0, 100));
        Due.answers("18: send", 100, () -> x.send(0, 100));
        Due.answers("18: send", 100, () -> x.send(0, 100));
        Due.answers("18: send", 100, () -> x.send(0, 100));
        Due.answers("8: note", 400, () -> x.value(0, 1));
        Due.answers("18: send", 100, () -> x.send(0, 100));
    }

    /** What the calls answer here is free; they end, and throw nothing but what they say. */
    private static void afterTheLast() {
        FieldStore x = new FieldStore();
        for (int i = 0; i < 3000; i++) {
            x.make(1, 0);
            x.held(1);
            x.change(1, 1000, 1, 5);
            x.send(1, 100);
            x.fetch(1);
        }
    }
}

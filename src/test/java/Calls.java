import java.util.Map;

/** The calls of the face by their names, for tests that write runs of calls as rows. */
final class Calls {
    /** How many arguments each call has. */
    static final Map<String, Integer> ARGUMENTS = Map.ofEntries(
        Map.entry("add", 2), Map.entry("give", 2), Map.entry("set", 3), Map.entry("jobs", 0), Map.entry("crew", 1),
        Map.entry("site", 1), Map.entry("value", 2), Map.entry("version", 2), Map.entry("setRoom", 2), Map.entry("fetch", 1),
        Map.entry("held", 1), Map.entry("holds", 2), Map.entry("heldValue", 3), Map.entry("change", 4), Map.entry("make", 2),
        Map.entry("numberOf", 2), Map.entry("send", 2), Map.entry("waiting", 1), Map.entry("pile", 1), Map.entry("reason", 2),
        Map.entry("refusedValue", 2), Map.entry("done", 0));

    private Calls() {
    }

    static long answer(FieldStore x, String call, int[] a) {
        switch (call) {
            case "add": return x.add(a[0], a[1]);
            case "give": return x.give(a[0], a[1]);
            case "set": return x.set(a[0], a[1], a[2]);
            case "jobs": return x.jobs();
            case "crew": return x.crew(a[0]);
            case "site": return x.site(a[0]);
            case "value": return x.value(a[0], a[1]);
            case "version": return x.version(a[0], a[1]);
            case "setRoom": return x.setRoom(a[0], a[1]);
            case "fetch": return x.fetch(a[0]);
            case "held": return x.held(a[0]);
            case "holds": return Due.bit(x.holds(a[0], a[1]));
            case "heldValue": return x.heldValue(a[0], a[1], a[2]);
            case "change": return x.change(a[0], a[1], a[2], a[3]);
            case "make": return x.make(a[0], a[1]);
            case "numberOf": return x.numberOf(a[0], a[1]);
            case "send": return x.send(a[0], a[1]);
            case "waiting": return x.waiting(a[0]);
            case "pile": return x.pile(a[0]);
            case "reason": return x.reason(a[0], a[1]);
            case "refusedValue": return x.refusedValue(a[0], a[1]);
            case "done": return x.done();
            default: throw new AssertionError(call);
        }
    }
}

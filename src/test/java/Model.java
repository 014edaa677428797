import java.util.ArrayDeque;
import java.util.ArrayList;
import java.util.Deque;
import java.util.HashMap;
import java.util.List;
import java.util.Map;
import java.util.stream.Collectors;
import java.util.stream.IntStream;

/** The document written down once more in another form, for the comparison of long runs of calls. */
final class Model {
    /** A number of the central store, or an own number of a device as long as the job has no other. */
    record Name(boolean own, int number) {
    }

    record Act(int job, Integer field, int value, int version) {
    }

    record Refusal(int reason, int value) {
    }

    static final class Device {
        int room = 10;
        final Map<Name, int[][]> held = new HashMap<>();
        final List<Integer> numbers = new ArrayList<>();
        final Deque<Act> acts = new ArrayDeque<>();
        final List<Refusal> pile = new ArrayList<>();

        Name name(int job) {
            boolean made = job >= 1000 && job < 1000L + numbers.size();
            if (!made) {
                return new Name(false, job);
            }
            Integer number = numbers.get(job - 1000);
            return number == -1 ? new Name(true, job) : new Name(false, number);
        }
    }

    final List<int[]> crewAndSite = new ArrayList<>();
    final List<int[][]> fields = new ArrayList<>();
    final Device[] devices = {new Device(), new Device(), new Device(), new Device()};
    int done = 0;

    /** Answers a call by its name. */
    long answer(String call, int[] a) {
        switch (call) {
            case "add": return add(a[0], a[1]);
            case "give": return give(a[0], a[1]);
            case "set": return set(a[0], a[1], a[2]);
            case "jobs": return fields.size();
            case "crew": place(a[0], fields.size()); return crewAndSite.get(a[0])[0];
            case "site": place(a[0], fields.size()); return crewAndSite.get(a[0])[1];
            case "value": return field(a[0], a[1])[0];
            case "version": return field(a[0], a[1])[1];
            case "setRoom": return setRoom(a[0], a[1]);
            case "fetch": return fetch(a[0]);
            case "held": return device(a[0]).held.size();
            case "holds": return device(a[0]).held.containsKey(devices[a[0]].name(a[1])) ? 1 : 0;
            case "heldValue": return heldValue(a[0], a[1], a[2]);
            case "change": return change(a[0], a[1], a[2], a[3]);
            case "make": return make(a[0], a[1]);
            case "numberOf": return numberOf(a[0], a[1]);
            case "send": return send(a[0], a[1]);
            case "waiting": return device(a[0]).acts.size();
            case "pile": return device(a[0]).pile.size();
            case "reason": return refusal(a[0], a[1]).reason();
            case "refusedValue": return refusal(a[0], a[1]).value();
            case "done": return done;
            default: throw new AssertionError(call);
        }
    }

    private static void place(int index, int size) {
        if (index < 0 || index >= size) {
            throw new IndexOutOfBoundsException();
        }
    }

    private static void range(int x, int low, int high) {
        if (x < low || x > high) {
            throw new IllegalArgumentException();
        }
    }

    private static void fieldAndValue(int field, int value) {
        range(field, 0, 1);
        range(value, 0, field == 0 ? 2 : 10000);
    }

    private Device device(int device) {
        place(device, 4);
        return devices[device];
    }

    private int[] field(int job, int field) {
        place(job, fields.size());
        range(field, 0, 1);
        return fields.get(job)[field];
    }

    private Refusal refusal(int device, int place) {
        List<Refusal> pile = device(device).pile;
        place(place, pile.size());
        return pile.get(place);
    }

    private static int[][] copy(int[][] fields) {
        return new int[][] {fields[0].clone(), fields[1].clone()};
    }

    private long add(int crew, int site) {
        range(crew, 0, 3);
        range(site, 0, 9);
        if (fields.size() == 40) {
            throw new IllegalStateException();
        }
        crewAndSite.add(new int[] {crew, site});
        fields.add(new int[2][2]);
        return fields.size() - 1;
    }

    private long give(int job, int crew) {
        place(job, fields.size());
        range(crew, 0, 3);
        int before = crewAndSite.get(job)[0];
        crewAndSite.get(job)[0] = crew;
        return before;
    }

    private long set(int job, int field, int value) {
        place(job, fields.size());
        fieldAndValue(field, value);
        int[] changed = fields.get(job)[field];
        changed[0] = value;
        return ++changed[1];
    }

    private long setRoom(int device, int room) {
        Device changed = device(device);
        range(room, 0, 40);
        int before = changed.room;
        changed.room = room;
        return before;
    }

    private long fetch(int device) {
        Device fetcher = device(device);
        fetcher.held.keySet().removeIf(name -> !name.own());
        List<Integer> ranks = List.of(1, 0, 2);
        List<Integer> wanted = IntStream.range(0, fields.size()).boxed()
            .filter(job -> crewAndSite.get(job)[0] == device)
            .sorted((a, b) -> {
                int byState = ranks.get(fields.get(a)[0][0]) - ranks.get(fields.get(b)[0][0]);
                return byState != 0 ? byState : a - b;
            })
            .limit(fetcher.room)
            .collect(Collectors.toList());
        for (int job : wanted) {
            fetcher.held.put(new Name(false, job), copy(fields.get(job)));
        }
        return fetcher.held.size();
    }

    private int[] heldField(int device, int job, int field) {
        int[][] held = devices[device].held.get(devices[device].name(job));
        if (held == null) {
            throw new IllegalStateException();
        }
        return held[field];
    }

    private long heldValue(int device, int job, int field) {
        device(device);
        range(field, 0, 1);
        return heldField(device, job, field)[0];
    }

    private long change(int device, int job, int field, int value) {
        Device holder = device(device);
        fieldAndValue(field, value);
        int[] changed = heldField(device, job, field);
        holder.acts.addLast(new Act(job, field, value, changed[1]));
        changed[0] = value;
        changed[1]++;
        return holder.acts.size();
    }

    private long make(int device, int site) {
        Device maker = device(device);
        range(site, 0, 9);
        int own = 1000 + maker.numbers.size();
        maker.numbers.add(-1);
        maker.held.put(new Name(true, own), new int[2][2]);
        maker.acts.addLast(new Act(own, null, site, 0));
        return own;
    }

    private long numberOf(int device, int own) {
        Device maker = device(device);
        if (own < 1000 || own >= 1000 + maker.numbers.size()) {
            throw new IllegalArgumentException();
        }
        return maker.numbers.get(own - 1000);
    }

    private long send(int device, int most) {
        Device sender = device(device);
        range(most, 1, 100);
        int before = done;
        for (int i = 0; i < most && !sender.acts.isEmpty(); i++) {
            Act act = sender.acts.removeFirst();
            int reason = act.field() == null ? sendMaking(device, act) : sendChange(device, act);
            if (reason == -1) {
                done++;
            } else {
                sender.pile.add(new Refusal(reason, act.value()));
            }
        }
        return done - before;
    }

    private int sendMaking(int device, Act act) {
        if (fields.size() == 40) {
            return 3;
        }
        Device sender = devices[device];
        int number = fields.size();
        crewAndSite.add(new int[] {device, act.value()});
        fields.add(new int[2][2]);
        sender.numbers.set(act.job() - 1000, number);
        sender.held.put(new Name(false, number), sender.held.remove(new Name(true, act.job())));
        return -1;
    }

    private int sendChange(int device, Act act) {
        Name name = devices[device].name(act.job());
        if (name.own()) {
            return 3;
        }
        if (crewAndSite.get(name.number())[0] != device) {
            return 0;
        }
        int[] field = fields.get(name.number())[act.field()];
        if (field[1] != act.version()) {
            return 1;
        }
        if (act.field() == 0 && act.value() != field[0] + 1) {
            return 2;
        }
        field[0] = act.value();
        field[1]++;
        return -1;
    }
}

import java.util.ArrayList;

/**
 * Jobs in a central store, and four devices that hold copies of the jobs of
 * their crews, change them without a line and send what was done, act by act.
 */
public final class FieldStore {
    public static final int NONE = -1;
    public static final int OPEN = 0, STARTED = 1, DONE = 2;
    public static final int STATE = 0, NOTE = 1;
    public static final int LOST = 0, CLASH = 1, STEP = 2, FULL = 3;

    private static final int CREWS = 4;
    private static final int LAST_SITE = 9;
    private static final int LAST_NOTE = 10000;
    private static final int MOST_JOBS = 40;
    private static final int FIRST_ROOM = 10;
    private static final int FIRST_OWN = 1000;
    private static final int MOST_SENT = 100;
    // An object is used for at most 512 calls, and a call adds one act at the most.
    private static final int MOST_ACTS = 512;

    private final ArrayList<Job> central = new ArrayList<Job>();
    private final Device[] devices = new Device[CREWS];
    private int actsDone = 0;

    /** The two fields of a job with their versions, in the central store or as a device holds them. */
    private static final class Fields {
        int state = OPEN;
        int note = 0;
        int stateVersion = 0;
        int noteVersion = 0;

        int valueOf(int field) {
            return field == STATE ? state : note;
        }

        int versionOf(int field) {
            return field == STATE ? stateVersion : noteVersion;
        }

        void put(int field, int value) {
            if (field == STATE) {
                state = value;
                stateVersion++;
            } else {
                note = value;
                noteVersion++;
            }
        }

        void copyFrom(Fields other) {
            state = other.state;
            note = other.note;
            stateVersion = other.stateVersion;
            noteVersion = other.noteVersion;
        }
    }

    /** A job of the central store. */
    private static final class Job {
        final int site;
        int crew;
        final Fields fields = new Fields();

        Job(int crew, int site) {
            this.crew = crew;
            this.site = site;
        }
    }

    /** A job that a device made; its fields count here only as long as it has no number. */
    private static final class Made {
        int number = NONE;
        final Fields fields = new Fields();
    }

    /** What was done on a device: the making of a job (its field is NONE, its value the site) or a change. */
    private static final class Act {
        final int job;
        final int field;
        final int value;
        final int version;
        int reason = NONE;

        Act(int job, int field, int value, int version) {
            this.job = job;
            this.field = field;
            this.value = value;
            this.version = version;
        }
    }

    /** What a device holds, what it did, and what of that was refused. */
    private static final class Device {
        int room = FIRST_ROOM;
        // By numbers of the central store; a row that is no longer held is used again.
        final Fields[] copies = new Fields[MOST_JOBS];
        final boolean[] copied = new boolean[MOST_JOBS];
        int copyCount = 0;
        final ArrayList<Made> madeJobs = new ArrayList<Made>();
        int unnumbered = 0;
        // Sent acts stay in the list, ahead of the place nextAct.
        final ArrayList<Act> acts = new ArrayList<Act>();
        int nextAct = 0;
        final ArrayList<Act> refused = new ArrayList<Act>();

        Made madeJob(int job) {
            if (job < FIRST_OWN || job - FIRST_OWN >= madeJobs.size()) {
                return null;
            }
            return madeJobs.get(job - FIRST_OWN);
        }

        int centralNumber(int job) {
            Made own = madeJob(job);
            return own == null ? job : own.number;
        }

        /** The fields of a job as they are held here; null if it is not held. */
        Fields heldFields(int job) {
            Made own = madeJob(job);
            if (own != null && own.number == NONE) {
                return own.fields;
            }
            int number = own == null ? job : own.number;
            if (number < 0 || number >= MOST_JOBS || !copied[number]) {
                return null;
            }
            return copies[number];
        }

        int heldCount() {
            return copyCount + unnumbered;
        }

        void dropCopies() {
            for (int number = 0; number < MOST_JOBS; number++) {
                copied[number] = false;
            }
            copyCount = 0;
        }

        void hold(int number, Fields fields) {
            if (number < 0 || number >= MOST_JOBS) {
                return;
            }
            Fields copy = copies[number];
            if (copy == null) {
                copy = new Fields();
                copies[number] = copy;
            }
            copy.copyFrom(fields);
            if (!copied[number]) {
                copied[number] = true;
                copyCount++;
            }
        }

        void giveNumber(Made own, int number) {
            own.number = number;
            unnumbered--;
            hold(number, own.fields);
        }

        boolean takesActs() {
            return acts.size() < MOST_ACTS;
        }

        int waitingCount() {
            return acts.size() - nextAct;
        }

        int makeJob(int site) {
            int own = FIRST_OWN + madeJobs.size();
            madeJobs.add(new Made());
            unnumbered++;
            acts.add(new Act(own, NONE, site, 0));
            return own;
        }

        void changeJob(int job, Fields fields, int field, int value) {
            acts.add(new Act(job, field, value, fields.versionOf(field)));
            fields.put(field, value);
        }

        /** Takes the next act to be sent; null if none waits. */
        Act takeAct() {
            if (nextAct < 0 || nextAct >= acts.size()) {
                return null;
            }
            Act act = acts.get(nextAct);
            nextAct++;
            return act;
        }

        void refuse(Act act, int reason) {
            act.reason = reason;
            refused.add(act);
        }
    }

    public FieldStore() {
        for (int device = 0; device < CREWS; device++) {
            devices[device] = new Device();
        }
    }

    // ---- central store

    public int add(int crew, int site) throws IllegalArgumentException, IllegalStateException {
        checkRange(crew, 0, CREWS - 1);
        checkRange(site, 0, LAST_SITE);
        if (central.size() >= MOST_JOBS) {
            throw new IllegalStateException("the central store is full");
        }
        central.add(new Job(crew, site));
        return central.size() - 1;
    }

    public int give(int job, int crew) throws IndexOutOfBoundsException, IllegalArgumentException {
        Job given = jobAt(job);
        checkRange(crew, 0, CREWS - 1);
        int before = given.crew;
        given.crew = crew;
        return before;
    }

    public int set(int job, int field, int value) throws IndexOutOfBoundsException, IllegalArgumentException {
        Fields fields = jobAt(job).fields;
        checkValue(field, value);
        fields.put(field, value);
        return fields.versionOf(field);
    }

    public int jobs() {
        return central.size();
    }

    public int crew(int job) throws IndexOutOfBoundsException {
        return jobAt(job).crew;
    }

    public int site(int job) throws IndexOutOfBoundsException {
        return jobAt(job).site;
    }

    public int value(int job, int field) throws IndexOutOfBoundsException, IllegalArgumentException {
        Fields fields = jobAt(job).fields;
        checkField(field);
        return fields.valueOf(field);
    }

    public int version(int job, int field) throws IndexOutOfBoundsException, IllegalArgumentException {
        Fields fields = jobAt(job).fields;
        checkField(field);
        return fields.versionOf(field);
    }

    // ---- devices, 0 to 3

    public int setRoom(int device, int room) throws IndexOutOfBoundsException, IllegalArgumentException {
        Device changed = deviceAt(device);
        checkRange(room, 0, MOST_JOBS);
        int before = changed.room;
        changed.room = room;
        return before;
    }

    public int fetch(int device) throws IndexOutOfBoundsException {
        Device fetcher = deviceAt(device);
        fetcher.dropCopies();
        copyJobs(device, fetcher, STARTED);
        copyJobs(device, fetcher, OPEN);
        copyJobs(device, fetcher, DONE);
        return fetcher.heldCount();
    }

    public int held(int device) throws IndexOutOfBoundsException {
        return deviceAt(device).heldCount();
    }

    public boolean holds(int device, int job) throws IndexOutOfBoundsException {
        return deviceAt(device).heldFields(job) != null;
    }

    public int heldValue(int device, int job, int field)
            throws IndexOutOfBoundsException, IllegalArgumentException, IllegalStateException {
        Device holder = deviceAt(device);
        checkField(field);
        return fieldsHeld(holder, job).valueOf(field);
    }

    public int change(int device, int job, int field, int value)
            throws IndexOutOfBoundsException, IllegalArgumentException, IllegalStateException {
        Device holder = deviceAt(device);
        checkValue(field, value);
        Fields fields = fieldsHeld(holder, job);
        if (holder.takesActs()) {
            holder.changeJob(job, fields, field, value);
        }
        return holder.waitingCount();
    }

    public int make(int device, int site) throws IndexOutOfBoundsException, IllegalArgumentException {
        Device maker = deviceAt(device);
        checkRange(site, 0, LAST_SITE);
        if (!maker.takesActs()) {
            return NONE;
        }
        return maker.makeJob(site);
    }

    public int numberOf(int device, int own) throws IndexOutOfBoundsException, IllegalArgumentException {
        Made job = deviceAt(device).madeJob(own);
        if (job == null) {
            throw new IllegalArgumentException("the device made no such job");
        }
        return job.number;
    }

    public int send(int device, int most) throws IndexOutOfBoundsException, IllegalArgumentException {
        Device sender = deviceAt(device);
        checkRange(most, 1, MOST_SENT);
        int sentAndDone = 0;
        for (int sent = 0; sent < most; sent++) {
            Act act = sender.takeAct();
            if (act == null) {
                break;
            }
            int reason = deliver(device, sender, act);
            if (reason == NONE) {
                sentAndDone++;
            } else {
                sender.refuse(act, reason);
            }
        }
        actsDone += sentAndDone;
        return sentAndDone;
    }

    public int waiting(int device) throws IndexOutOfBoundsException {
        return deviceAt(device).waitingCount();
    }

    // ---- piles

    public int pile(int device) throws IndexOutOfBoundsException {
        return deviceAt(device).refused.size();
    }

    public int reason(int device, int place) throws IndexOutOfBoundsException {
        return refusedAt(device, place).reason;
    }

    public int refusedValue(int device, int place) throws IndexOutOfBoundsException {
        return refusedAt(device, place).value;
    }

    public int done() {
        return actsDone;
    }

    // ---- fetching and sending

    private void copyJobs(int crew, Device fetcher, int state) {
        for (int number = 0; number < central.size(); number++) {
            Job job = central.get(number);
            if (fetcher.copyCount < fetcher.room && job.crew == crew && job.fields.state == state) {
                fetcher.hold(number, job.fields);
            }
        }
    }

    /** Does an act in the central store and answers NONE, or answers why it is refused. */
    private int deliver(int crew, Device sender, Act act) {
        return act.field == NONE ? deliverMaking(crew, sender, act) : deliverChange(crew, sender, act);
    }

    private int deliverMaking(int crew, Device sender, Act act) {
        Made own = sender.madeJob(act.job);
        if (own == null || central.size() >= MOST_JOBS) {
            return FULL;
        }
        sender.giveNumber(own, central.size());
        central.add(new Job(crew, act.value));
        return NONE;
    }

    private int deliverChange(int crew, Device sender, Act act) {
        int number = sender.centralNumber(act.job);
        // The making of a job is sent ahead of its changes: without a number by now, it was refused.
        if (number < 0 || number >= central.size()) {
            return FULL;
        }
        Job job = central.get(number);
        if (job.crew != crew) {
            return LOST;
        }
        if (job.fields.versionOf(act.field) != act.version) {
            return CLASH;
        }
        if (act.field == STATE && !isStep(job.fields.state, act.value)) {
            return STEP;
        }
        job.fields.put(act.field, act.value);
        return NONE;
    }

    private static boolean isStep(int from, int to) {
        return from == OPEN && to == STARTED || from == STARTED && to == DONE;
    }

    // ---- what the calls check

    private Job jobAt(int job) {
        if (job < 0 || job >= central.size()) {
            throw new IndexOutOfBoundsException("no such job");
        }
        return central.get(job);
    }

    private Device deviceAt(int device) {
        if (device < 0 || device >= CREWS) {
            throw new IndexOutOfBoundsException("no such device");
        }
        return devices[device];
    }

    private Act refusedAt(int device, int place) {
        ArrayList<Act> refused = deviceAt(device).refused;
        if (place < 0 || place >= refused.size()) {
            throw new IndexOutOfBoundsException("no such place");
        }
        return refused.get(place);
    }

    private static Fields fieldsHeld(Device holder, int job) {
        Fields fields = holder.heldFields(job);
        if (fields == null) {
            throw new IllegalStateException("the device does not hold the job");
        }
        return fields;
    }

    private static void checkRange(int number, int low, int high) {
        if (number < low || number > high) {
            throw new IllegalArgumentException("an argument is out of range");
        }
    }

    private static void checkField(int field) {
        checkRange(field, STATE, NOTE);
    }

    private static void checkValue(int field, int value) {
        checkField(field);
        checkRange(value, 0, field == STATE ? DONE : LAST_NOTE);
    }
}

/** The promises 1 to 23 one by one: the smallest and largest arguments, the next ones beyond, empty and full. */
public final class PromisesTest {
    public static void main(String[] args) {
        newObject();
        add();
        give();
        set();
        questionsOnJobs();
        setRoom();
        fetch();
        held();
        holds();
        heldValue();
        change();
        make();
        numberOf();
        send();
        waiting();
        pile();
        done();
        Due.end();
    }

    private static void newObject() {
        Run.due("1: no jobs", """
            jobs = 0
            crew 0 = PLACE
            site 0 = PLACE
            value 0 0 = PLACE
            version 0 0 = PLACE
            give 0 0 = PLACE
            set 0 0 0 = PLACE
            done = 0
            """);
        for (int d = 0; d < 4; d++) {
            Run.due("1: devices hold nothing", """
                held D = 0
                holds D 0 = 0
                holds D 1000 = 0
                heldValue D 0 0 = STATE
                heldValue D 1000 0 = STATE
                numberOf D 1000 = RANGE
                waiting D = 0
                pile D = 0
                reason D 0 = PLACE
                refusedValue D 0 = PLACE
                send D 100 = 0
                fetch D = 0
                setRoom D 10 = 10
                make D 0 = 1000
                """.replace("D", "" + d));
        }
    }

    private static void add() {
        Run.due("2: crew 0 to 3", """
            add -1 0 = RANGE
            add 4 0 = RANGE
            add MIN 0 = RANGE
            add MAX 0 = RANGE
            jobs = 0
            add 0 0 = 0
            add 3 0 = 1
            crew 0 = 0
            crew 1 = 3
            """);
        Run.due("2: site 0 to 9", """
            add 0 -1 = RANGE
            add 0 10 = RANGE
            add 0 MIN = RANGE
            add 0 MAX = RANGE
            jobs = 0
            add 0 0 = 0
            add 0 9 = 1
            site 0 = 0
            site 1 = 9
            """);
        Run.due("2: IllegalStateException if there are 40", """
            39 times add 0 0
            add 3 9 = 39
            add 3 9 = STATE
            add 0 0 = STATE
            jobs = 40
            crew 39 = 3
            """);
    }

    private static void give() {
        Run.due("3: crew 0 to 3", """
            add 1 0 = 0
            give 0 0 = 1
            give 0 3 = 0
            give 0 4 = RANGE
            give 0 -1 = RANGE
            give 0 MIN = RANGE
            give 0 MAX = RANGE
            crew 0 = 3
            """);
        Run.due("3: returns its crew before, also if that is the same", """
            add 1 0 = 0
            add 2 0 = 1
            give 0 1 = 1
            give 0 2 = 1
            give 0 2 = 2
            crew 0 = 2
            crew 1 = 2
            """);
        Run.due("3: IndexOutOfBoundsException if there is no such job", """
            give 0 0 = PLACE
            add 1 0 = 0
            give 1 0 = PLACE
            give -1 0 = PLACE
            give MIN 0 = PLACE
            give MAX 0 = PLACE
            crew 0 = 1
            """);
        Run.due("3: own numbers are no jobs of the central store", """
            make 0 0 = 1000
            give 1000 1 = PLACE
            send 0 1 = 1
            give 1000 1 = PLACE
            give 0 1 = 0
            """);
        Run.due("3: site, fields and what a device holds stay", """
            add 1 7 = 0
            set 0 0 2 = 1
            set 0 1 3 = 1
            fetch 1 = 1
            give 0 2 = 1
            site 0 = 7
            value 0 0 = 2
            value 0 1 = 3
            version 0 0 = 1
            version 0 1 = 1
            holds 1 0 = 1
            holds 2 0 = 0
            """);
    }

    private static void set() {
        Run.due("4: any state can follow any other one", """
            add 0 0 = 0
            set 0 0 0 = 1
            set 0 0 2 = 2
            set 0 0 2 = 3
            set 0 0 1 = 4
            set 0 0 1 = 5
            set 0 0 0 = 6
            set 0 0 1 = 7
            set 0 0 2 = 8
            set 0 0 0 = 9
            value 0 0 = 0
            """);
        Run.due("4: field STATE or NOTE", """
            add 0 0 = 0
            set 0 0 1 = 1
            set 0 1 1 = 1
            set 0 2 1 = RANGE
            set 0 -1 1 = RANGE
            set 0 MIN 1 = RANGE
            set 0 MAX 1 = RANGE
            version 0 0 = 1
            version 0 1 = 1
            """);
        Run.due("4: value OPEN to DONE for STATE", """
            add 0 0 = 0
            set 0 0 -1 = RANGE
            set 0 0 3 = RANGE
            set 0 0 MIN = RANGE
            set 0 0 MAX = RANGE
            version 0 0 = 0
            set 0 0 2 = 1
            set 0 0 0 = 2
            """);
        Run.due("4: value 0 to 10000 for NOTE", """
            add 0 0 = 0
            set 0 1 -1 = RANGE
            set 0 1 10001 = RANGE
            set 0 1 MIN = RANGE
            set 0 1 MAX = RANGE
            version 0 1 = 0
            set 0 1 10000 = 1
            value 0 1 = 10000
            set 0 1 0 = 2
            value 0 1 = 0
            """);
        Run.due("4: IndexOutOfBoundsException if there is no such job", """
            set 0 0 0 = PLACE
            add 0 0 = 0
            set 1 0 0 = PLACE
            set -1 0 0 = PLACE
            set MIN 0 0 = PLACE
            set MAX 0 0 = PLACE
            set 1000 0 0 = PLACE
            version 0 0 = 0
            """);
        Run.due("4: returns the version of the field then, changes of devices counted", """
            add 0 0 = 0
            fetch 0 = 1
            change 0 0 1 5 = 1
            change 0 0 1 6 = 2
            send 0 2 = 2
            set 0 1 6 = 3
            set 0 0 1 = 1
            """);
    }

    private static void questionsOnJobs() {
        Run.due("5: the number of jobs", """
            jobs = 0
            add 0 0 = 0
            jobs = 1
            add 4 0 = RANGE
            make 0 0 = 1000
            jobs = 1
            send 0 1 = 1
            jobs = 2
            38 times add 3 0
            jobs = 40
            add 3 0 = STATE
            make 0 0 = 1001
            send 0 1 = 0
            jobs = 40
            """);
        for (String call : new String[] {"crew JOB", "site JOB", "value JOB 0", "value JOB 1", "version JOB 0", "version JOB 1"}) {
            String rows = """
                CALL(-1) = PLACE
                CALL(MIN) = PLACE
                CALL(MAX) = PLACE
                CALL(0) = PLACE
                add 0 0 = 0
                CALL(0) = 0
                CALL(1) = PLACE
                38 times add 0 0
                CALL(38) = 0
                CALL(39) = PLACE
                add 0 0 = 39
                CALL(39) = 0
                CALL(40) = PLACE
                make 0 0 = 1000
                CALL(1000) = PLACE
                """;
            for (String job : new String[] {"-1", "MIN", "MAX", "0", "1", "38", "39", "40", "1000"}) {
                rows = rows.replace("CALL(" + job + ")", call.replace("JOB", job));
            }
            Run.due("6 to 9: IndexOutOfBoundsException if there is no such job", rows);
        }
        Run.due("8 and 9: field STATE or NOTE", """
            add 0 0 = 0
            set 0 0 2 = 1
            set 0 1 77 = 1
            set 0 1 78 = 2
            value 0 0 = 2
            value 0 1 = 78
            version 0 0 = 1
            version 0 1 = 2
            value 0 -1 = RANGE
            value 0 2 = RANGE
            value 0 MIN = RANGE
            value 0 MAX = RANGE
            version 0 -1 = RANGE
            version 0 2 = RANGE
            version 0 MIN = RANGE
            version 0 MAX = RANGE
            """);
    }

    private static void setRoom() {
        Run.due("10: room 0 to 40", """
            setRoom 0 0 = 10
            setRoom 0 40 = 0
            setRoom 0 41 = RANGE
            setRoom 0 -1 = RANGE
            setRoom 0 MIN = RANGE
            setRoom 0 MAX = RANGE
            setRoom 0 40 = 40
            """);
        Run.due("10: from its next fetching on", """
            3 times add 0 0
            fetch 0 = 3
            setRoom 0 0 = 10
            held 0 = 3
            change 0 2 1 1 = 1
            fetch 0 = 0
            setRoom 0 2 = 0
            held 0 = 0
            fetch 0 = 2
            """);
        Run.due("10: each device has its own", """
            setRoom 0 1 = 10
            setRoom 1 2 = 10
            setRoom 2 3 = 10
            setRoom 3 4 = 10
            setRoom 0 5 = 1
            setRoom 1 5 = 2
            setRoom 2 5 = 3
            setRoom 3 5 = 4
            """);
        noSuchDevice("10", "setRoom D 5");
    }

    private static void fetch() {
        Run.due("11: acts that wait stay as they are", """
            add 0 0 = 0
            fetch 0 = 1
            change 0 0 1 5 = 1
            make 0 6 = 1000
            change 0 1000 0 1 = 3
            give 0 1 = 0
            fetch 0 = 1
            waiting 0 = 3
            give 0 0 = 1
            send 0 3 = 3
            value 0 1 = 5
            site 1 = 6
            value 1 0 = 1
            """);
        Run.due("11: returns how many jobs the device holds then: none, its own, and both", """
            fetch 0 = 0
            make 0 0 = 1000
            fetch 0 = 1
            add 0 0 = 0
            add 1 0 = 1
            fetch 0 = 2
            fetch 0 = 2
            send 0 1 = 1
            fetch 0 = 2
            """);
        Run.due("11: room for all 40, and own ones besides", """
            40 times add 3 0
            make 3 0 = 1000
            setRoom 3 40 = 10
            fetch 3 = 41
            send 3 1 = 0
            fetch 3 = 41
            """);
        noSuchDevice("11", "fetch D");
    }

    private static void held() {
        Run.due("12: the number of jobs that a device holds", """
            held 0 = 0
            add 0 0 = 0
            held 0 = 0
            fetch 0 = 1
            held 0 = 1
            held 1 = 0
            make 0 0 = 1000
            held 0 = 2
            send 0 1 = 1
            held 0 = 2
            setRoom 0 1 = 10
            fetch 0 = 1
            held 0 = 1
            """);
        noSuchDevice("12", "held D");
    }

    private static void holds() {
        Run.due("13: any other number: false", """
            add 0 0 = 0
            fetch 0 = 1
            make 0 0 = 1000
            holds 0 0 = 1
            holds 0 1 = 0
            holds 0 -1 = 0
            holds 0 39 = 0
            holds 0 40 = 0
            holds 0 999 = 0
            holds 0 1000 = 1
            holds 0 1001 = 0
            holds 0 MIN = 0
            holds 0 MAX = 0
            """);
        Run.due("13: the last job of a full store", """
            40 times add 0 0
            setRoom 0 40 = 10
            fetch 0 = 40
            holds 0 39 = 1
            holds 0 40 = 0
            """);
        Run.due("13: an own number of another device: false", """
            make 0 0 = 1000
            make 0 0 = 1001
            make 1 0 = 1000
            holds 1 1001 = 0
            holds 2 1000 = 0
            """);
        noSuchDevice("13", "holds D 0");
    }

    private static void heldValue() {
        Run.due("14: field STATE or NOTE", """
            add 0 0 = 0
            set 0 0 2 = 1
            set 0 1 9 = 1
            fetch 0 = 1
            heldValue 0 0 0 = 2
            heldValue 0 0 1 = 9
            heldValue 0 0 2 = RANGE
            heldValue 0 0 -1 = RANGE
            heldValue 0 0 MIN = RANGE
            heldValue 0 0 MAX = RANGE
            """);
        Run.due("14: IllegalStateException if the device does not hold the job", """
            add 0 0 = 0
            add 1 0 = 1
            heldValue 0 0 0 = STATE
            fetch 0 = 1
            heldValue 0 0 0 = 0
            heldValue 0 1 0 = STATE
            heldValue 0 2 0 = STATE
            heldValue 0 39 0 = STATE
            heldValue 0 40 0 = STATE
            heldValue 0 -1 0 = STATE
            heldValue 0 999 0 = STATE
            heldValue 0 1000 0 = STATE
            heldValue 0 MIN 0 = STATE
            heldValue 0 MAX 0 = STATE
            make 0 0 = 1000
            heldValue 0 1000 0 = 0
            heldValue 0 1001 0 = STATE
            heldValue 1 1000 0 = STATE
            give 0 1 = 0
            fetch 0 = 1
            heldValue 0 0 0 = STATE
            """);
        noSuchDevice("14", "heldValue D 0 0");
    }

    private static void change() {
        Run.due("15: field STATE or NOTE", """
            add 0 0 = 0
            fetch 0 = 1
            change 0 0 2 0 = RANGE
            change 0 0 -1 0 = RANGE
            change 0 0 MIN 0 = RANGE
            change 0 0 MAX 0 = RANGE
            waiting 0 = 0
            change 0 0 0 0 = 1
            change 0 0 1 0 = 2
            """);
        Run.due("15: value OPEN to DONE for STATE", """
            add 0 0 = 0
            fetch 0 = 1
            change 0 0 0 -1 = RANGE
            change 0 0 0 3 = RANGE
            change 0 0 0 MIN = RANGE
            change 0 0 0 MAX = RANGE
            waiting 0 = 0
            change 0 0 0 2 = 1
            heldValue 0 0 0 = 2
            change 0 0 0 0 = 2
            heldValue 0 0 0 = 0
            """);
        Run.due("15: value 0 to 10000 for NOTE", """
            make 0 0 = 1000
            change 0 1000 1 -1 = RANGE
            change 0 1000 1 10001 = RANGE
            change 0 1000 1 MIN = RANGE
            change 0 1000 1 MAX = RANGE
            waiting 0 = 1
            change 0 1000 1 10000 = 2
            heldValue 0 1000 1 = 10000
            change 0 1000 1 0 = 3
            heldValue 0 1000 1 = 0
            """);
        Run.due("15: IllegalStateException if the device does not hold the job", """
            add 0 0 = 0
            add 1 0 = 1
            fetch 0 = 1
            change 0 1 0 0 = STATE
            change 0 2 0 0 = STATE
            change 0 39 0 0 = STATE
            change 0 40 0 0 = STATE
            change 0 -1 0 0 = STATE
            change 0 999 0 0 = STATE
            change 0 1000 0 0 = STATE
            change 0 MIN 0 0 = STATE
            change 0 MAX 0 0 = STATE
            waiting 0 = 0
            setRoom 0 0 = 10
            fetch 0 = 0
            change 0 0 0 0 = STATE
            waiting 0 = 0
            """);
        Run.due("15: returns how many acts wait on the device", """
            add 0 0 = 0
            add 1 0 = 1
            fetch 0 = 1
            fetch 1 = 1
            change 0 0 1 1 = 1
            change 1 1 1 1 = 1
            change 0 0 1 2 = 2
            make 0 0 = 1000
            change 0 1000 1 2 = 4
            send 0 3 = 3
            change 0 0 1 3 = 2
            """);
        noSuchDevice("15", "change D 0 0 0");
    }

    private static void make() {
        Run.due("16: site 0 to 9", """
            make 0 -1 = RANGE
            make 0 10 = RANGE
            make 0 MIN = RANGE
            make 0 MAX = RANGE
            waiting 0 = 0
            held 0 = 0
            make 0 0 = 1000
            make 0 9 = 1001
            send 0 2 = 2
            site 0 = 0
            site 1 = 9
            """);
        Run.due("16: more than the central store has room for", """
            40 times add 0 0
            make 0 0 = 1000
            40 times make 0 0
            make 0 0 = 1041
            held 0 = 42
            """);
        noSuchDevice("16", "make D 0");
    }

    private static void numberOf() {
        Run.due("17: NONE if it was not sent", """
            make 0 0 = 1000
            make 0 0 = 1001
            numberOf 0 1000 = -1
            send 0 1 = 1
            numberOf 0 1000 = 0
            numberOf 0 1001 = -1
            """);
        Run.due("17: NONE if it was refused", """
            40 times add 0 0
            make 0 0 = 1000
            send 0 1 = 0
            numberOf 0 1000 = -1
            """);
        Run.due("17: the last number of the central store", """
            39 times add 0 0
            make 3 0 = 1000
            send 3 1 = 1
            numberOf 3 1000 = 39
            """);
        Run.due("17: the number stays, also when the job is given away", """
            make 0 0 = 1000
            send 0 1 = 1
            give 0 1 = 0
            fetch 0 = 0
            numberOf 0 1000 = 0
            """);
        Run.due("17: IllegalArgumentException if the device made no such job", """
            add 0 0 = 0
            fetch 0 = 1
            numberOf 0 1000 = RANGE
            make 0 0 = 1000
            make 0 0 = 1001
            numberOf 0 0 = RANGE
            numberOf 0 999 = RANGE
            numberOf 0 1002 = RANGE
            numberOf 0 -1 = RANGE
            numberOf 0 MIN = RANGE
            numberOf 0 MAX = RANGE
            make 1 0 = 1000
            numberOf 1 1001 = RANGE
            numberOf 2 1000 = RANGE
            """);
        noSuchDevice("17", "numberOf D 1000");
    }

    private static void send() {
        Run.due("18: most 1 to 100", """
            add 0 0 = 0
            fetch 0 = 1
            202 times change 0 0 1 5
            send 0 0 = RANGE
            send 0 101 = RANGE
            send 0 -1 = RANGE
            send 0 MIN = RANGE
            send 0 MAX = RANGE
            waiting 0 = 202
            send 0 1 = 1
            waiting 0 = 201
            send 0 100 = 100
            waiting 0 = 101
            send 0 100 = 100
            waiting 0 = 1
            send 0 100 = 1
            waiting 0 = 0
            send 0 100 = 0
            send 0 1 = 0
            """);
        Run.due("18: how many at the most, refused ones counted", """
            2 times add 0 0
            fetch 0 = 2
            2 times change 0 0 0 2
            2 times change 0 1 1 5
            send 0 3 = 1
            waiting 0 = 1
            pile 0 = 2
            send 0 3 = 1
            """);
        Run.due("18: just as many as wait, one fewer, one more", """
            make 0 0 = 1000
            5 times change 0 1000 1 5
            send 0 2 = 2
            waiting 0 = 4
            send 0 4 = 4
            waiting 0 = 0
            2 times change 0 1000 1 5
            send 0 3 = 2
            """);
        Run.due("18: returns how many were done: none of them", """
            add 0 0 = 0
            fetch 0 = 1
            3 times change 0 0 0 0
            send 0 3 = 0
            pile 0 = 3
            done = 0
            """);
        Run.due("18: acts of this device alone", """
            make 0 0 = 1000
            make 1 0 = 1000
            send 0 100 = 1
            send 2 100 = 0
            waiting 1 = 1
            numberOf 1 1000 = -1
            """);
        noSuchDevice("18", "send D 1");
    }

    private static void waiting() {
        Run.due("19: how many acts wait", """
            waiting 0 = 0
            make 0 0 = 1000
            waiting 0 = 1
            waiting 1 = 0
            change 0 1000 0 2 = 2
            waiting 0 = 2
            change 0 1000 0 3 = RANGE
            change 0 1001 0 2 = STATE
            make 0 10 = RANGE
            send 0 0 = RANGE
            fetch 0 = 1
            waiting 0 = 2
            send 0 1 = 1
            waiting 0 = 1
            send 0 1 = 0        // refused ones wait no longer
            waiting 0 = 0
            """);
        noSuchDevice("19", "waiting D");
    }

    private static void pile() {
        Run.due("20 to 22: an empty pile", """
            pile 0 = 0
            reason 0 0 = PLACE
            refusedValue 0 0 = PLACE
            reason 0 -1 = PLACE
            refusedValue 0 -1 = PLACE
            """);
        Run.due("20 to 22: place 0 for the first one, and the last one", """
            add 0 0 = 0
            fetch 0 = 1
            change 0 0 0 2 = 1
            change 0 0 1 10000 = 2
            change 0 0 1 0 = 3
            set 0 1 1 = 1
            set 0 1 1 = 2
            pile 0 = 0          // what waits is not on it
            send 0 3 = 0
            pile 0 = 3
            reason 0 0 = 2
            refusedValue 0 0 = 2
            reason 0 1 = 1
            refusedValue 0 1 = 10000
            reason 0 2 = 1
            refusedValue 0 2 = 0
            reason 0 3 = PLACE
            refusedValue 0 3 = PLACE
            reason 0 -1 = PLACE
            refusedValue 0 -1 = PLACE
            reason 0 MIN = PLACE
            refusedValue 0 MIN = PLACE
            reason 0 MAX = PLACE
            refusedValue 0 MAX = PLACE
            reason 1 0 = PLACE
            refusedValue 1 0 = PLACE
            """);
        Run.due("20 to 22: the pile grows at its end and is kept", """
            add 0 0 = 0
            fetch 0 = 1
            change 0 0 0 2 = 1
            send 0 1 = 0
            fetch 0 = 1
            make 0 0 = 1000
            send 0 1 = 1
            pile 0 = 1
            give 0 1 = 0
            change 0 0 1 7 = 1
            send 0 1 = 0
            pile 0 = 2
            reason 0 0 = 2
            refusedValue 0 0 = 2
            reason 0 1 = 0
            refusedValue 0 1 = 7
            """);
        Run.due("22: the site for one that made a job", """
            40 times add 0 0
            make 0 0 = 1000
            make 0 9 = 1001
            make 1 4 = 1000
            send 0 2 = 0
            send 1 1 = 0
            refusedValue 0 0 = 0
            refusedValue 0 1 = 9
            refusedValue 1 0 = 4
            """);
        noSuchDevice("20", "pile D");
        noSuchDevice("21", "reason D 0");
        noSuchDevice("22", "refusedValue D 0");
    }

    private static void done() {
        Run.due("23: how many acts of all devices were done in the central store", """
            done = 0
            add 0 0 = 0
            set 0 0 1 = 1
            give 0 1 = 0
            fetch 1 = 1
            done = 0            // the office does no acts
            change 1 0 0 2 = 1
            make 0 0 = 1000
            done = 0            // what waits is not done
            send 1 1 = 1
            done = 1
            send 0 1 = 1
            done = 2
            change 1 0 0 1 = 1
            send 1 1 = 0
            done = 2            // nor is what was refused
            send 4 1 = PLACE
            send 0 101 = RANGE
            done = 2
            make 2 0 = 1000
            make 3 0 = 1000
            send 2 1 = 1
            send 3 1 = 1
            done = 4
            """);
    }

    private static void noSuchDevice(String promise, String call) {
        StringBuilder rows = new StringBuilder("add 0 0 = 0\nmake 3 0 = 1000\n");
        for (String device : new String[] {"-1", "4", "5", "1000", "MIN", "MAX"}) {
            rows.append(call.replace("D", device)).append(" = PLACE\n");
        }
        Run.due(promise + ": IndexOutOfBoundsException if there is no such device", rows.toString());
    }
}

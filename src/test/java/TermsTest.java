/** The sentences of "The public face" and of "Terms" one by one, each with its boundary cases. */
public final class TermsTest {
    public static void main(String[] args) {
        lifeOfAnObject();
        firstExceptionOfTheList();
        crewsAndJobs();
        fieldsAndVersions();
        roomAndFetching();
        madeJobsStayBesides();
        changesOnDevices();
        makingOnDevices();
        orderOfSending();
        numbersOfMadeJobs();
        lost();
        clash();
        step();
        full();
        orderOfReasons();
        pileAndWhatIsHeld();
        Due.end();
    }

    private static void lifeOfAnObject() {
        Run.due("512 calls: makes", """
            511 times make 3 9
            make 3 9 = 1511
            """);
        Run.due("512 calls: makes, then what they did", """
            504 times make 3 9
            held 3 = 504
            waiting 3 = 504
            holds 3 1503 = 1
            holds 3 1504 = 0
            heldValue 3 1503 1 = 0
            numberOf 3 1503 = -1
            numberOf 3 1504 = RANGE
            fetch 3 = 504
            """);
        Run.due("512 calls: changes of a device", """
            add 0 0 = 0
            fetch 0 = 1
            509 times change 0 0 1 10000
            waiting 0 = 509
            """);
        Run.due("512 calls: changes of a device, sent and refused", """
            add 0 0 = 0
            fetch 0 = 1
            498 times change 0 0 1 7
            give 0 1 = 0
            send 0 100 = 0
            send 0 100 = 0
            send 0 100 = 0
            send 0 100 = 0
            send 0 100 = 0
            send 0 100 = 0
            pile 0 = 498
            reason 0 497 = 0
            refusedValue 0 497 = 7
            reason 0 498 = PLACE
            refusedValue 0 498 = PLACE
            """);
        Run.due("512 calls: changes of a device, sent and done", """
            add 0 0 = 0
            fetch 0 = 1
            498 times change 0 0 1 7
            send 0 100 = 100
            send 0 100 = 100
            send 0 100 = 100
            send 0 100 = 100
            send 0 99 = 98
            send 0 100 = 0
            waiting 0 = 0
            done = 498
            version 0 1 = 498
            pile 0 = 0
            """);
        Run.due("512 calls: changes by the office", """
            add 0 0 = 0
            509 times set 0 0 0
            set 0 0 0 = 510
            version 0 0 = 510
            """);
        Run.due("512 calls: refused ones", """
            511 times jobs
            add 0 10 = RANGE
            """);
    }

    private static void firstExceptionOfTheList() {
        Run.due("the first exception of the list: add", """
            40 times add 0 0
            add 4 0 = RANGE     // and there are 40
            add 0 10 = RANGE
            add -1 -1 = RANGE
            add 3 9 = STATE
            """);
        Run.due("the first exception of the list: calls on jobs", """
            add 0 0 = 0
            give 1 4 = PLACE    // no such job, and the crew is out of range
            give 0 4 = RANGE
            set 1 2 0 = PLACE   // no such job, and the field is out of range
            set 1 0 3 = PLACE   // no such job, and the value is out of range
            set 1 2 -1 = PLACE
            set 0 2 -1 = RANGE
            value 1 2 = PLACE
            value 0 2 = RANGE
            version 1 2 = PLACE
            version 0 2 = RANGE
            """);
        Run.due("the first exception of the list: calls on devices", """
            setRoom 4 41 = PLACE
            setRoom 3 41 = RANGE
            heldValue 4 0 2 = PLACE     // no such device, field out of range, not held
            heldValue 4 0 0 = PLACE
            heldValue 3 0 2 = RANGE     // field out of range, not held
            heldValue 3 0 0 = STATE
            change 4 0 2 -1 = PLACE     // no such device, field and value out of range, not held
            change 4 0 0 3 = PLACE
            change 4 0 0 0 = PLACE
            change 3 0 2 0 = RANGE      // field out of range, not held
            change 3 0 0 3 = RANGE      // value out of range, not held
            change 3 0 1 10001 = RANGE
            change 3 0 0 0 = STATE
            make 4 10 = PLACE
            make 3 10 = RANGE
            numberOf 4 0 = PLACE
            numberOf 3 0 = RANGE
            send 4 0 = PLACE
            send 3 0 = RANGE
            reason 4 0 = PLACE
            refusedValue 4 0 = PLACE
            """);
    }

    private static void crewsAndJobs() {
        Run.due("there are the crews 0 to 3; the device d belongs to the crew d", """
            add 3 0 = 0
            add 2 0 = 1
            add 1 0 = 2
            add 0 0 = 3
            fetch 0 = 1
            holds 0 3 = 1
            fetch 1 = 1
            holds 1 2 = 1
            fetch 2 = 1
            holds 2 1 = 1
            fetch 3 = 1
            holds 3 0 = 1
            add 4 0 = RANGE
            fetch 4 = PLACE
            add -1 0 = RANGE
            fetch -1 = PLACE
            """);
        Run.due("jobs are numbered from 0", """
            crew 0 = PLACE
            add 0 0 = 0
            crew 0 = 0
            crew 1 = PLACE
            crew -1 = PLACE
            add 0 0 = 1
            """);
        Run.due("there are at most 40: added", """
            39 times add 1 1
            jobs = 39
            crew 39 = PLACE
            add 1 1 = 39
            crew 39 = 1
            add 1 1 = STATE
            add 1 1 = STATE
            jobs = 40
            crew 40 = PLACE
            """);
        Run.due("there are at most 40: made ones that were sent count", """
            39 times add 1 1
            make 0 0 = 1000
            send 0 1 = 1
            jobs = 40
            add 1 1 = STATE
            """);
        Run.due("there are at most 40: made ones that wait do not count", """
            39 times add 1 1
            make 0 0 = 1000
            jobs = 39
            add 1 1 = 39
            send 0 1 = 0
            numberOf 0 1000 = -1
            jobs = 40
            """);
        Run.due("there are at most 40: all of them made, by all devices", """
            10 times make 0 0
            10 times make 1 1
            10 times make 2 2
            11 times make 3 3
            send 3 11 = 11
            send 2 10 = 10
            send 1 10 = 10
            send 0 10 = 9
            jobs = 40
            site 0 = 3
            site 10 = 3
            site 11 = 2
            site 39 = 0
            crew 0 = 3
            crew 39 = 0
            numberOf 0 1008 = 39
            numberOf 0 1009 = -1
            """);
        Run.due("a job has a crew and a site, 0 to 9", """
            add 0 0 = 0
            add 3 9 = 1
            crew 0 = 0
            site 0 = 0
            crew 1 = 3
            site 1 = 9
            add 0 -1 = RANGE
            add 0 10 = RANGE
            jobs = 2
            """);
    }

    private static void fieldsAndVersions() {
        Run.due("the state is OPEN at first, the note 0 at first, each version 0 at first", """
            add 0 5 = 0
            value 0 0 = 0
            value 0 1 = 0
            version 0 0 = 0
            version 0 1 = 0
            """);
        Run.due("both are fields, each has a version", """
            add 0 0 = 0
            set 0 0 2 = 1
            version 0 1 = 0
            value 0 1 = 0
            set 0 1 10000 = 1
            set 0 1 9999 = 2
            version 0 0 = 1
            value 0 0 = 2
            value 0 1 = 9999
            value 0 2 = RANGE
            value 0 -1 = RANGE
            version 0 2 = RANGE
            version 0 -1 = RANGE
            """);
        Run.due("a version becomes 1 more with each change, also one to the value that it has: office", """
            add 0 0 = 0
            set 0 0 0 = 1
            set 0 0 0 = 2
            set 0 1 0 = 1
            set 0 1 0 = 2
            version 0 0 = 2
            version 0 1 = 2
            value 0 0 = 0
            value 0 1 = 0
            """);
        Run.due("a version becomes 1 more with each change, also one to the value that it has: sent", """
            add 0 0 = 0
            fetch 0 = 1
            change 0 0 1 0 = 1
            change 0 0 1 0 = 2
            version 0 1 = 0     // not yet in the central store
            send 0 2 = 2
            version 0 1 = 2
            version 0 0 = 0
            """);
        Run.due("what is no change of a field leaves the versions", """
            add 0 0 = 0
            fetch 0 = 1
            change 0 0 0 2 = 1
            send 0 1 = 0
            give 0 1 = 0
            give 0 0 = 1
            set 0 0 3 = RANGE
            set 0 1 10001 = RANGE
            version 0 0 = 0
            version 0 1 = 0
            """);
    }

    private static void roomAndFetching() {
        Run.due("a device has room for 10 at first: one too few", """
            9 times add 2 0
            fetch 2 = 9
            holds 2 8 = 1
            """);
        Run.due("a device has room for 10 at first: just as many", """
            10 times add 2 0
            fetch 2 = 10
            holds 2 9 = 1
            """);
        Run.due("a device has room for 10 at first: one too many", """
            11 times add 2 0
            fetch 2 = 10
            holds 2 9 = 1
            holds 2 10 = 0
            """);
        Run.due("when it fetches, it holds the jobs of its crew in place of what it held", """
            add 0 0 = 0
            add 0 0 = 1
            add 1 0 = 2
            fetch 0 = 2
            give 0 1 = 0
            give 2 0 = 1
            holds 0 0 = 1
            holds 0 2 = 0
            fetch 0 = 2
            holds 0 0 = 0
            holds 0 1 = 1
            holds 0 2 = 1
            """);
        Run.due("when it fetches, and there is no job of its crew any more", """
            add 0 0 = 0
            fetch 0 = 1
            give 0 1 = 0
            fetch 0 = 0
            held 0 = 0
            holds 0 0 = 0
            """);
        Run.due("those that are STARTED first, then OPEN, then DONE", """
            add 0 0 = 0
            add 0 0 = 1
            add 0 0 = 2
            set 0 0 2 = 1
            set 2 0 1 = 1
            setRoom 0 1 = 10
            fetch 0 = 1
            holds 0 2 = 1
            setRoom 0 2 = 1
            fetch 0 = 2
            holds 0 1 = 1
            holds 0 2 = 1
            setRoom 0 3 = 2
            fetch 0 = 3
            holds 0 0 = 1
            """);
        Run.due("each by rising numbers", """
            6 times add 0 0
            set 5 0 1 = 1
            set 3 0 1 = 1
            set 0 0 2 = 1
            set 1 0 2 = 1
            setRoom 0 1 = 10
            fetch 0 = 1
            holds 0 3 = 1
            setRoom 0 3 = 1
            fetch 0 = 3
            holds 0 2 = 1
            holds 0 4 = 0
            setRoom 0 5 = 3
            fetch 0 = 5
            holds 0 0 = 1
            holds 0 1 = 0
            """);
        Run.due("as many as there is room for: none, all 40", """
            40 times add 1 0
            setRoom 1 0 = 10
            fetch 1 = 0
            holds 1 0 = 0
            setRoom 1 39 = 0
            fetch 1 = 39
            holds 1 38 = 1
            holds 1 39 = 0
            setRoom 1 40 = 39
            fetch 1 = 40
            holds 1 39 = 1
            """);
        Run.due("each with values and versions of now", """
            add 0 0 = 0
            fetch 0 = 1
            set 0 0 1 = 1
            set 0 1 55 = 1
            set 0 1 56 = 2
            heldValue 0 0 0 = 0
            heldValue 0 0 1 = 0
            fetch 0 = 1
            heldValue 0 0 0 = 1
            heldValue 0 0 1 = 56
            change 0 0 0 2 = 1
            change 0 0 1 57 = 2
            send 0 2 = 2        // neither of them clashes
            fetch 0 = 1
            heldValue 0 0 0 = 2
            heldValue 0 0 1 = 57
            """);
        Run.due("values of now, not those that wait", """
            add 0 0 = 0
            fetch 0 = 1
            change 0 0 1 3 = 1
            fetch 0 = 1
            heldValue 0 0 1 = 0
            change 0 0 1 4 = 2
            send 0 2 = 1        // both acts have the version 0 ahead of them
            value 0 1 = 3
            reason 0 0 = 1
            refusedValue 0 0 = 4
            """);
    }

    private static void madeJobsStayBesides() {
        Run.due("jobs that it made and that have no number stay besides, as they are", """
            make 0 0 = 1000
            change 0 1000 0 1 = 2
            change 0 1000 1 10000 = 3
            fetch 0 = 1
            holds 0 1000 = 1
            heldValue 0 1000 0 = 1
            heldValue 0 1000 1 = 10000
            fetch 1 = 0
            """);
        Run.due("stay besides, as they are: the versions, too", """
            make 0 0 = 1000
            change 0 1000 1 5 = 2
            fetch 0 = 1
            change 0 1000 1 6 = 3
            send 0 3 = 3
            value 0 1 = 6
            version 0 1 = 2
            """);
        Run.due("stay besides: also those that were refused", """
            40 times add 1 0
            make 0 0 = 1000
            change 0 1000 1 8 = 2
            send 0 2 = 0
            fetch 0 = 1
            holds 0 1000 = 1
            heldValue 0 1000 1 = 8
            give 0 0 = 1
            fetch 0 = 2
            """);
        Run.due("they do not count for the room", """
            11 times add 0 0
            3 times make 0 0
            fetch 0 = 13
            setRoom 0 0 = 10
            fetch 0 = 3
            setRoom 0 1 = 0
            fetch 0 = 4
            holds 0 0 = 1
            holds 0 1 = 0
            """);
        Run.due("made ones that have a number count for the room", """
            2 times make 0 0
            send 0 2 = 2
            setRoom 0 1 = 10
            held 0 = 2
            fetch 0 = 1
            holds 0 1000 = 1
            holds 0 1001 = 0
            setRoom 0 0 = 1
            fetch 0 = 0
            holds 0 1000 = 0
            """);
        Run.due("made ones that have a number stay no longer than their crew has them", """
            make 0 0 = 1000
            send 0 1 = 1
            give 0 1 = 0
            holds 0 1000 = 1
            fetch 0 = 0
            holds 0 1000 = 0
            numberOf 0 1000 = 0
            """);
    }

    private static void changesOnDevices() {
        Run.due("a device can change a field of a job that it holds: no other job", """
            add 0 0 = 0
            change 0 0 1 1 = STATE      // not yet fetched
            fetch 0 = 1
            change 0 0 1 1 = 1
            change 0 1 1 1 = STATE      // no job of this number
            change 0 -1 1 1 = STATE
            change 0 1000 1 1 = STATE
            change 1 0 1 1 = STATE      // held by another device
            waiting 0 = 1
            waiting 1 = 0
            """);
        Run.due("the value becomes the new one on the device, not in the central store", """
            add 0 0 = 0
            fetch 0 = 1
            change 0 0 0 2 = 1
            change 0 0 1 10000 = 2
            heldValue 0 0 0 = 2
            heldValue 0 0 1 = 10000
            value 0 0 = 0
            value 0 1 = 0
            """);
        Run.due("and the version 1 more, on the device, of that field", """
            add 0 0 = 0
            fetch 0 = 1
            change 0 0 1 5 = 1
            change 0 0 1 5 = 2          // also one to the value that it has
            change 0 0 0 1 = 3
            change 0 0 1 6 = 4
            send 0 4 = 4                // each has the version that the one ahead of it leaves
            version 0 0 = 1
            version 0 1 = 3
            """);
        Run.due("the change is an act with the version ahead of it", """
            add 0 0 = 0
            fetch 0 = 1
            set 0 1 1 = 1
            change 0 0 1 5 = 1          // version 0
            change 0 0 1 6 = 2          // version 1
            send 0 1 = 0
            send 0 1 = 1
            value 0 1 = 6
            reason 0 0 = 1
            """);
        Run.due("a job that is not of the crew any more can be changed as long as it is held", """
            add 0 0 = 0
            fetch 0 = 1
            give 0 1 = 0
            change 0 0 1 5 = 1
            heldValue 0 0 1 = 5
            """);
    }

    private static void makingOnDevices() {
        Run.due("making a job is an act, too", """
            waiting 2 = 0
            make 2 0 = 1000
            waiting 2 = 1
            make 2 0 = 1001
            waiting 2 = 2
            send 2 1 = 1
            done = 1
            """);
        Run.due("own numbers 1000, 1001 and so on, by device from the first one that it made", """
            make 0 0 = 1000
            make 0 0 = 1001
            make 3 0 = 1000
            send 0 2 = 2
            make 0 0 = 1002     // goes on after they were sent
            make 3 0 = 1001
            make 1 10 = RANGE
            make 1 0 = 1000     // what was thrown takes no number
            """);
        Run.due("own numbers go on after a refusal", """
            40 times add 0 0
            make 0 0 = 1000
            send 0 1 = 0
            make 0 0 = 1001
            """);
        Run.due("it has the crew of the device, is OPEN, with the note 0, and both versions 0", """
            make 3 9 = 1000
            heldValue 3 1000 0 = 0
            heldValue 3 1000 1 = 0
            send 3 1 = 1
            crew 0 = 3
            site 0 = 9
            value 0 0 = 0
            value 0 1 = 0
            version 0 0 = 0
            version 0 1 = 0
            change 3 1000 0 1 = 1
            change 3 1000 1 1 = 2
            send 3 2 = 2        // with the versions 0
            """);
    }

    private static void orderOfSending() {
        Run.due("the acts of a device are sent in the order in which they were done", """
            add 0 0 = 0
            add 0 0 = 1
            fetch 0 = 2
            change 0 1 1 11 = 1
            change 0 0 0 1 = 2
            make 0 7 = 1000
            change 0 0 1 12 = 4
            send 0 1 = 1
            value 1 1 = 11
            value 0 0 = 0
            send 0 1 = 1
            value 0 0 = 1
            jobs = 2
            send 0 1 = 1
            jobs = 3
            value 0 1 = 0
            send 0 1 = 1
            value 0 1 = 12
            """);
        Run.due("a job that was made gets the next number of the central store", """
            make 0 1 = 1000
            make 1 2 = 1000
            add 2 3 = 0
            send 1 1 = 1
            add 2 3 = 2
            send 0 1 = 1
            numberOf 1 1000 = 1
            numberOf 0 1000 = 3
            jobs = 4
            """);
    }

    private static void numbersOfMadeJobs() {
        Run.due("from then on its own number stands for it as well, in acts", """
            add 1 0 = 0
            make 0 0 = 1000
            change 0 1000 1 5 = 2       // done ahead of the sending
            send 0 1 = 1
            change 0 1000 1 6 = 2       // after it, by own number
            change 0 1 1 7 = 3          // and by number
            send 0 3 = 3
            value 1 1 = 7
            version 1 1 = 3
            value 0 1 = 0
            """);
        Run.due("from then on its own number stands for it as well, on the device", """
            add 1 0 = 0
            make 0 0 = 1000
            holds 0 1 = 0
            heldValue 0 1 0 = STATE
            send 0 1 = 1
            holds 0 1000 = 1
            holds 0 1 = 1
            change 0 1 0 2 = 1
            heldValue 0 1000 0 = 2
            change 0 1000 1 9 = 2
            heldValue 0 1 1 = 9
            held 0 = 1
            """);
        Run.due("also when it is fetched later", """
            make 0 0 = 1000
            send 0 1 = 1
            give 0 1 = 0
            fetch 0 = 0
            holds 0 1000 = 0
            heldValue 0 1000 0 = STATE
            change 0 1000 0 0 = STATE
            give 0 0 = 1
            set 0 1 4 = 1
            fetch 0 = 1
            holds 0 1000 = 1
            heldValue 0 1000 1 = 4
            change 0 1000 1 5 = 1
            send 0 1 = 1
            value 0 1 = 5
            """);
        Run.due("the own number of one device stands for nothing on another one", """
            make 0 0 = 1000
            make 0 0 = 1001
            send 0 2 = 2
            give 0 1 = 0
            fetch 1 = 1
            holds 1 0 = 1
            holds 1 1000 = 0
            make 1 0 = 1000
            send 1 1 = 1
            numberOf 1 1000 = 2
            numberOf 0 1000 = 0
            """);
    }

    private static void lost() {
        Run.due("refused by LOST, if the job is not of the crew of the device any more", """
            add 0 0 = 0
            fetch 0 = 1
            change 0 0 1 5 = 1
            change 0 0 0 1 = 2
            give 0 3 = 0
            send 0 2 = 0
            reason 0 0 = 0
            reason 0 1 = 0
            value 0 0 = 0
            value 0 1 = 0
            version 0 0 = 0
            version 0 1 = 0
            """);
        Run.due("not LOST: given away and back, or to the crew that has it", """
            add 0 0 = 0
            fetch 0 = 1
            change 0 0 1 5 = 1
            give 0 1 = 0
            give 0 0 = 1
            give 0 0 = 0
            send 0 1 = 1
            pile 0 = 0
            """);
        Run.due("LOST: a made job that was given away", """
            make 0 0 = 1000
            change 0 1000 1 5 = 2
            send 0 1 = 1
            give 0 1 = 0
            send 0 1 = 0
            reason 0 0 = 0
            refusedValue 0 0 = 5
            """);
        Run.due("LOST is a matter of the crew, not of what the device holds", """
            11 times add 0 0
            fetch 0 = 10
            change 0 9 1 5 = 1
            set 10 0 1 = 1
            fetch 0 = 10
            holds 0 9 = 0
            send 0 1 = 1
            value 9 1 = 5
            """);
    }

    private static void clash() {
        Run.due("refused by CLASH, if the version in the central store is more than that of the act", """
            add 0 0 = 0
            fetch 0 = 1
            change 0 0 1 5 = 1
            set 0 1 0 = 1
            send 0 1 = 0
            reason 0 0 = 1
            value 0 1 = 0
            version 0 1 = 1
            """);
        Run.due("refused by CLASH, if the version in the central store is less than that of the act", """
            add 0 0 = 0
            fetch 0 = 1
            change 0 0 0 2 = 1      // will be refused by STEP
            change 0 0 0 1 = 2
            send 0 2 = 0
            reason 0 0 = 2
            reason 0 1 = 1
            version 0 0 = 0
            """);
        Run.due("no CLASH by the version of the other field, or of another job", """
            add 0 0 = 0
            add 0 0 = 1
            fetch 0 = 2
            change 0 0 0 1 = 1
            change 0 1 1 3 = 2
            set 0 1 9 = 1
            set 1 0 1 = 1
            send 0 2 = 2
            """);
        Run.due("no CLASH when the versions are the same again", """
            add 0 0 = 0
            fetch 0 = 1
            change 0 0 1 5 = 1      // version 0
            change 0 0 1 6 = 2      // version 1
            set 0 1 7 = 1
            send 0 2 = 1
            reason 0 0 = 1
            value 0 1 = 6
            version 0 1 = 2
            """);
        Run.due("CLASH between two devices", """
            add 0 0 = 0
            fetch 0 = 1
            change 0 0 1 5 = 1
            give 0 1 = 0
            fetch 1 = 1
            change 1 0 1 6 = 1
            send 1 1 = 1
            give 0 0 = 1
            send 0 1 = 0
            reason 0 0 = 1
            pile 1 = 0
            value 0 1 = 6
            """);
    }

    private static void step() {
        Run.due("STEP: from OPEN only to STARTED", """
            3 times add 0 0
            fetch 0 = 3
            change 0 0 0 0 = 1
            change 0 1 0 1 = 2
            change 0 2 0 2 = 3
            send 0 3 = 1
            pile 0 = 2
            reason 0 0 = 2
            refusedValue 0 0 = 0
            reason 0 1 = 2
            refusedValue 0 1 = 2
            value 1 0 = 1
            value 2 0 = 0
            """);
        Run.due("STEP: from STARTED only to DONE", """
            3 times add 0 0
            set 0 0 1 = 1
            set 1 0 1 = 1
            set 2 0 1 = 1
            fetch 0 = 3
            change 0 0 0 0 = 1
            change 0 1 0 1 = 2
            change 0 2 0 2 = 3
            send 0 3 = 1
            pile 0 = 2
            reason 0 0 = 2
            refusedValue 0 0 = 0
            reason 0 1 = 2
            refusedValue 0 1 = 1
            value 0 0 = 1
            value 2 0 = 2
            """);
        Run.due("STEP: from DONE to none", """
            3 times add 0 0
            set 0 0 2 = 1
            set 1 0 2 = 1
            set 2 0 2 = 1
            fetch 0 = 3
            change 0 0 0 0 = 1
            change 0 1 0 1 = 2
            change 0 2 0 2 = 3
            send 0 3 = 0
            reason 0 0 = 2
            reason 0 1 = 2
            reason 0 2 = 2
            value 0 0 = 2
            """);
        Run.due("STEP: if it is of the state, so of no note", """
            add 0 0 = 0
            set 0 0 2 = 1
            set 0 1 2 = 1
            fetch 0 = 1
            change 0 0 1 0 = 1
            change 0 0 1 0 = 2
            change 0 0 1 10000 = 3
            change 0 0 1 2 = 4
            change 0 0 1 1 = 5
            send 0 5 = 5
            """);
        Run.due("STEP: both steps one after the other", """
            make 0 0 = 1000
            change 0 1000 0 1 = 2
            change 0 1000 0 2 = 3
            change 0 1000 0 2 = 4
            send 0 4 = 3
            value 0 0 = 2
            version 0 0 = 2
            reason 0 0 = 2
            """);
        Run.due("STEP: from the state in the central store", """
            add 0 0 = 0
            fetch 0 = 1
            change 0 0 0 2 = 1      // version 0: clashes
            change 0 0 0 2 = 2      // version 1, DONE to DONE on the device
            set 0 0 1 = 1
            send 0 2 = 1            // STARTED to DONE in the central store
            value 0 0 = 2
            """);
    }

    private static void full() {
        Run.due("making a job is refused by FULL, if there are 40", """
            39 times add 0 0
            make 0 4 = 1000
            make 0 5 = 1001
            send 0 2 = 1
            jobs = 40
            numberOf 0 1000 = 39
            numberOf 0 1001 = -1
            pile 0 = 1
            reason 0 0 = 3
            refusedValue 0 0 = 5
            """);
        Run.due("not FULL by 39 of them", """
            39 times add 0 0
            make 0 4 = 1000
            send 0 1 = 1
            pile 0 = 0
            """);
        Run.due("then all changes of it are refused by FULL, too: those that wait", """
            40 times add 0 0
            make 0 4 = 1000
            change 0 1000 0 1 = 2
            change 0 1000 1 5 = 3
            send 0 1 = 0
            waiting 0 = 2           // each is sent in its turn
            pile 0 = 1
            send 0 2 = 0
            reason 0 1 = 3
            refusedValue 0 1 = 1
            reason 0 2 = 3
            refusedValue 0 2 = 5
            """);
        Run.due("then all changes of it are refused by FULL, too: those that are done later", """
            40 times add 0 0
            make 0 4 = 1000
            send 0 1 = 0
            change 0 1000 0 0 = 1
            send 0 1 = 0
            reason 0 1 = 3
            refusedValue 0 1 = 0
            """);
        Run.due("FULL: the changes of no other job", """
            39 times add 0 0
            fetch 0 = 10
            make 0 4 = 1000
            make 0 5 = 1001
            change 0 0 1 1 = 3
            change 0 1001 1 2 = 4
            change 0 1000 1 3 = 5
            send 0 5 = 3
            value 0 1 = 1
            value 39 1 = 3
            pile 0 = 2
            refusedValue 0 0 = 5
            refusedValue 0 1 = 2
            reason 0 1 = 3
            """);
        Run.due("FULL: also with the values that the device has", """
            40 times add 0 0
            make 0 4 = 1000
            change 0 1000 0 2 = 2
            change 0 1000 0 0 = 3
            send 0 100 = 0
            heldValue 0 1000 0 = 0
            reason 0 1 = 3          // no STEP and no CLASH
            reason 0 2 = 3
            version 0 0 = 0
            """);
    }

    private static void orderOfReasons() {
        Run.due("LOST ahead of CLASH", """
            add 0 0 = 0
            fetch 0 = 1
            change 0 0 1 5 = 1
            set 0 1 0 = 1
            give 0 1 = 0
            send 0 1 = 0
            reason 0 0 = 0
            """);
        Run.due("LOST ahead of STEP", """
            add 0 0 = 0
            fetch 0 = 1
            change 0 0 0 2 = 1
            give 0 1 = 0
            send 0 1 = 0
            reason 0 0 = 0
            """);
        Run.due("LOST ahead of CLASH and STEP", """
            add 0 0 = 0
            fetch 0 = 1
            change 0 0 0 2 = 1
            set 0 0 0 = 1
            give 0 1 = 0
            send 0 1 = 0
            reason 0 0 = 0
            """);
        Run.due("CLASH ahead of STEP", """
            add 0 0 = 0
            fetch 0 = 1
            change 0 0 0 2 = 1
            set 0 0 0 = 1
            send 0 1 = 0
            reason 0 0 = 1
            """);
    }

    private static void pileAndWhatIsHeld() {
        Run.due("what is refused goes to the pile of the device, in this order", """
            40 times add 0 0
            fetch 0 = 10
            make 0 8 = 1000
            change 0 0 0 2 = 2
            change 0 1 1 11 = 3
            change 0 2 1 12 = 4
            change 0 3 1 13 = 5
            give 1 1 = 0
            set 2 1 0 = 1
            send 0 100 = 1
            pile 0 = 4
            pile 1 = 0
            reason 0 0 = 3
            refusedValue 0 0 = 8
            reason 0 1 = 2
            refusedValue 0 1 = 2
            reason 0 2 = 0
            refusedValue 0 2 = 11
            reason 0 3 = 1
            refusedValue 0 3 = 12
            reason 0 4 = PLACE
            """);
        Run.due("sending changes nothing of what the device holds: done and refused ones", """
            add 0 0 = 0
            add 0 0 = 1
            fetch 0 = 2
            change 0 0 1 5 = 1
            change 0 1 0 2 = 2
            set 0 0 1 = 1
            send 0 2 = 1
            held 0 = 2
            heldValue 0 0 1 = 5
            heldValue 0 0 0 = 0
            heldValue 0 1 0 = 2
            heldValue 0 1 1 = 0
            """);
        Run.due("sending changes nothing of what the device holds: the versions, too", """
            add 0 0 = 0
            fetch 0 = 1
            change 0 0 0 2 = 1
            send 0 1 = 0
            change 0 0 0 1 = 1      // its version on the device is 1
            send 0 1 = 0
            reason 0 1 = 1
            set 0 1 0 = 1
            change 0 0 1 5 = 1
            send 0 1 = 0
            reason 0 2 = 1
            change 0 0 1 6 = 1      // 1 as in the central store
            send 0 1 = 1
            """);
        Run.due("sending changes nothing of what the device holds: a lost job is held", """
            add 0 0 = 0
            fetch 0 = 1
            change 0 0 1 5 = 1
            give 0 1 = 0
            send 0 1 = 0
            held 0 = 1
            holds 0 0 = 1
            heldValue 0 0 1 = 5
            """);
        Run.due("a made job has its number, and is held as the others are from then on", """
            make 0 0 = 1000
            make 0 0 = 1001
            change 0 1000 1 5 = 3
            setRoom 0 0 = 10
            send 0 1 = 1
            held 0 = 2              // till it fetches
            holds 0 0 = 1
            heldValue 0 0 1 = 5
            send 0 1 = 1
            change 0 0 1 6 = 2      // with the version 1 on the device
            send 0 2 = 2
            value 0 1 = 6
            fetch 0 = 0
            """);
    }
}

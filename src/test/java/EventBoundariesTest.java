/** The sentences about events that name a boundary case, each with its own test. */
public final class EventBoundariesTest {
    private static final int MIN = Integer.MIN_VALUE;
    private static final int MAX = Integer.MAX_VALUE;
    private static final int NONE = WatchList.NONE;

    public static void main(String[] args) {
        raising();
        working();
        telling();
        Due.end();
    }

    private static void raising() {
        Due.sentence("Promise 1: No limits, events", EventBoundariesTest::noneWaitsAtFirst);
        Due.sentence("Terms: EVENTS are 0 .. 31", EventBoundariesTest::firstAndLastEvent);
        Due.sentence("Terms: RAISES them alike", EventBoundariesTest::toldOrNotIsRaised);
        Due.sentence("Terms: each with a number", EventBoundariesTest::numbersAreInts);
        Due.sentence("Terms: at most 64", EventBoundariesTest::atMost64);
        Due.sentence("Terms: a further one is LOST", EventBoundariesTest::furtherOnesAreLost);
        Due.sentence("Terms: a further one is LOST (while WATCHING)", EventBoundariesTest::lostWhileWatching);
        Due.sentence("Promise 8: false if there is none such", EventBoundariesTest::raiseNoneSuch);
        Due.sentence("Promise 8: or it is LOST", EventBoundariesTest::raiseOneThatIsLost);
    }

    private static void working() {
        Due.sentence("Terms: wait in order", EventBoundariesTest::inOrderFromEachStart);
        Due.sentence("Promise 9: The first that waits is taken out", EventBoundariesTest::firstIsTakenOut);
        Due.sentence("Promise 9: is the one that is WORKED then", EventBoundariesTest::workedFromThenOn);
        Due.sentence("Promise 9: NONE if none waits", EventBoundariesTest::noneWaits);
        Due.sentence("Promise 10: All that wait are LOST: how many", EventBoundariesTest::loseNoneToAll);
        Due.sentence("Promise 10: All that wait are LOST", EventBoundariesTest::loseFromEachStart);
    }

    private static void telling() {
        Due.sentence("Terms: each is TOLD or not (all are at first", EventBoundariesTest::allAreToldAtFirst);
        Due.sentence("Promise 11: An event is told, or not", EventBoundariesTest::toldOrNot);
        Due.sentence("Promise 11: 16 if there is none such", EventBoundariesTest::tellNoneSuch);
        Due.sentence("Promise 17: NONE for no such event", EventBoundariesTest::eventNoneSuch);
        Due.sentence("Promise 17: NONE for no such event or what", EventBoundariesTest::eventNoSuchWhat);
        Due.sentence("Promise 19: 2: events that wait", EventBoundariesTest::countsThoseThatWait);
        Due.sentence("Promise 19: 3: events LOST so far", EventBoundariesTest::lostSoFar);
        Due.sentence("Promise 19: 4: the number of the one that is WORKED, 0 before",
                EventBoundariesTest::zeroBeforeOneIsWorked);
        Due.sentence("Promise 19: NONE for another what", EventBoundariesTest::countAnotherWhat);
        Due.sentence("What it is: An object is used for at most 512 calls", EventBoundariesTest::upToTheLastCall);
    }

    /** A list whose next event is the one after so many that have been worked. */
    private static WatchList after(int worked) {
        WatchList x = new WatchList();
        for (int i = 0; i < worked; i++) {
            x.raise(1, -1);
            x.work();
        }
        return x;
    }

    private static WatchList full() {
        WatchList x = new WatchList();
        for (int i = 1; i <= 64; i++) {
            x.raise(i % 32, i);
        }
        return x;
    }

    private static void noneWaitsAtFirst() {
        WatchList x = new WatchList();
        Due.is("waiting", x.count(2), 0);
        Due.is("LOST", x.count(3), 0);
        Due.is("lose", x.lose(), 0);
        Due.is("work", x.work(), NONE);
    }

    private static void firstAndLastEvent() {
        WatchList x = new WatchList();
        for (int e : new int[] {31, 0}) {
            Due.is("raise " + e, x.raise(e, 1), true);
            Due.is("tell " + e, x.tell(e, true), 0);
            Due.is("event " + e, x.event(e, 0), 1);
        }
        Due.is("31 first", x.work(), 31);
        Due.is("0 then", x.work(), 0);
    }

    private static void toldOrNotIsRaised() {
        for (boolean told : new boolean[] {true, false}) {
            WatchList x = new WatchList();
            x.add(1, 1, 1, 1, 1, 9, true);
            x.enable(1, true);
            x.tell(9, told);
            Due.is("raise, told " + told, x.raise(9, 5), true);
            Due.is("watch, told " + told, x.watch(), 1);
            Due.is("linked, told " + told, x.linked(), true);
            Due.is("waiting, told " + told, x.count(2), 2);
            Due.is("raised, told " + told, x.work(), 9);
            Due.is("its number, told " + told, x.count(4), 5);
            Due.is("watched, told " + told, x.work(), 9);
            Due.is("still told " + told, x.event(9, 0), told ? 1 : 0);
        }
    }

    private static void numbersAreInts() {
        for (int number : new int[] {MIN, -65537, -1, 0, 1, 255, 256, 65536, MAX}) {
            WatchList x = new WatchList();
            x.raise(3, 77);
            x.raise(3, number);
            x.work();
            x.work();
            Due.is("number " + number, x.count(4), number);
        }
    }

    private static void atMost64() {
        WatchList x = new WatchList();
        for (int n = 1; n <= 64; n++) {
            Due.is("raise no " + n, x.raise(31, n), true);
            Due.is("waiting " + n, x.count(2), n);
        }
        Due.is("none LOST yet", x.count(3), 0);
        x.raise(31, 65);
        Due.is("still 64", x.count(2), 64);
    }

    private static void furtherOnesAreLost() {
        WatchList x = full();
        for (int n = 1; n <= 3; n++) {
            x.raise(20, 1000 + n);
            Due.is("LOST " + n, x.count(3), n);
            Due.is("64 wait after " + n, x.count(2), 64);
        }
        for (int i = 1; i <= 64; i++) {
            Due.is("waited " + i, x.work(), i % 32);
            Due.is("its number " + i, x.count(4), i);
        }
        Due.is("none of the LOST waits", x.work(), NONE);
    }

    private static void lostWhileWatching() {
        WatchList x = new WatchList();
        for (int id = 1; id <= 4; id++) {
            x.add(id, 0, 1, 1, 1, 20 + id, id == 4);
            x.enable(id, true);
        }
        for (int i = 0; i < 62; i++) {
            x.raise(3, 3);
        }
        Due.is("BROKEN though LOST", x.watch(), 4);
        Due.is("linked though LOST", x.linked(), true);
        Due.is("64 wait", x.count(2), 64);
        Due.is("two are LOST", x.count(3), 2);
        Due.is("four BROKEN so far", x.count(1), 4);
        for (int i = 0; i < 62; i++) {
            x.work();
        }
        Due.is("the first by ids", x.work(), 21);
        Due.is("the second by ids", x.work(), 22);
        Due.is("no third", x.work(), NONE);
    }

    private static void raiseNoneSuch() {
        for (int e : Wrong.events()) {
            WatchList x = new WatchList();
            Due.is("raise " + e, x.raise(e, 5), false);
            Due.is("none waits for " + e, x.count(2), 0);
            Due.is("none is LOST for " + e, x.count(3), 0);
            Due.is("none to work for " + e, x.work(), NONE);
            Due.is("no number for " + e, x.count(4), 0);
        }
        WatchList x = full();
        for (int e : Wrong.events()) {
            Due.is("raise when full " + e, x.raise(e, 5), false);
        }
        Due.is("none is LOST when full", x.count(3), 0);
    }

    private static void raiseOneThatIsLost() {
        WatchList x = full();
        Due.is("the 65th", x.raise(0, 65), false);
        Due.is("one more", x.raise(31, 66), false);
        x.work();
        Due.is("room for one", x.raise(0, 67), true);
        Due.is("full again", x.raise(0, 68), false);
        x.lose();
        Due.is("room for all", x.raise(0, 69), true);
    }

    private static void inOrderFromEachStart() {
        for (int start = 0; start <= 65; start++) {
            WatchList x = after(start);
            for (int i = 0; i < 64; i++) {
                x.raise(31 - i % 32, 100 + i);
            }
            Due.is("no place for one more from " + start, x.raise(1, 1), false);
            for (int i = 0; i < 64; i++) {
                Due.is("from " + start + ", event " + i, x.work(), 31 - i % 32);
                Due.is("from " + start + ", number " + i, x.count(4), 100 + i);
            }
            Due.is("no more from " + start, x.work(), NONE);
        }
    }

    private static void firstIsTakenOut() {
        WatchList x = new WatchList();
        x.raise(4, 40);
        x.raise(4, 41);
        x.raise(5, 50);
        for (int left = 2; left >= 0; left--) {
            Due.is("work", x.work(), left == 0 ? 5 : 4);
            Due.is("left", x.count(2), left);
        }
        Due.is("number", x.count(4), 50);
        Due.is("WORKED is not LOST", x.count(3), 0);
    }

    private static void workedFromThenOn() {
        WatchList x = new WatchList();
        x.raise(4, 40);
        x.work();
        Due.is("it", x.count(4), 40);
        x.raise(5, 50);
        Due.is("while another waits", x.count(4), 40);
        x.lose();
        Due.is("while another is LOST", x.count(4), 40);
        x.work();
        Due.is("while none waits", x.count(4), 40);
        x.raise(6, 0);
        x.work();
        Due.is("the next one, whose number is 0", x.count(4), 0);
    }

    private static void noneWaits() {
        WatchList x = new WatchList();
        Due.is("at first", x.work(), NONE);
        Due.is("again", x.work(), NONE);
        Due.is("none was taken out", x.count(2), 0);
        x.raise(0, 3);
        Due.is("one", x.work(), 0);
        Due.is("after the last", x.work(), NONE);
        Due.is("none is WORKED instead", x.count(4), 3);
        x.raise(31, 4);
        x.lose();
        Due.is("after all are LOST", x.work(), NONE);
        x.raise(31, 5);
        Due.is("goes on", x.work(), 31);
    }

    private static void loseNoneToAll() {
        for (int n = 0; n <= 64; n++) {
            WatchList x = new WatchList();
            for (int i = 0; i < n; i++) {
                x.raise(i % 32, i);
            }
            Due.is("lose " + n, x.lose(), n);
            Due.is("LOST " + n, x.count(3), n);
            Due.is("none waits after " + n, x.count(2), 0);
            Due.is("none to lose after " + n, x.lose(), 0);
            Due.is("LOST stays " + n, x.count(3), n);
        }
    }

    private static void loseFromEachStart() {
        for (int start = 0; start <= 65; start++) {
            WatchList x = after(start);
            x.raise(1, 1);
            x.raise(2, 2);
            Due.is("lose from " + start, x.lose(), 2);
            for (int i = 0; i < 64; i++) {
                Due.is("room from " + start, x.raise(i % 32, i), true);
            }
            for (int i = 0; i < 64; i++) {
                Due.is("in order from " + start, x.work(), i % 32);
            }
            Due.is("last number from " + start, x.count(4), 63);
        }
    }

    private static void allAreToldAtFirst() {
        WatchList x = new WatchList();
        for (int e = 0; e <= 31; e++) {
            Due.is("told " + e, x.event(e, 0), 1);
        }
    }

    private static void toldOrNot() {
        for (int e : new int[] {0, 15, 31}) {
            WatchList x = new WatchList();
            for (boolean on : new boolean[] {true, false, false, true, true, false}) {
                Due.is("tell " + e + " " + on, x.tell(e, on), 0);
                Due.is("told " + e + " " + on, x.event(e, 0), on ? 1 : 0);
            }
            for (int other = 0; other <= 31; other++) {
                Due.is("of " + other, x.event(other, 0), other == e ? 0 : 1);
            }
        }
    }

    private static void tellNoneSuch() {
        WatchList x = new WatchList();
        for (int e : Wrong.events()) {
            Due.is("off " + e, x.tell(e, false), 16);
            Due.is("on " + e, x.tell(e, true), 16);
            Due.is("off again " + e, x.tell(e, false), 16);
        }
        for (int e = 0; e <= 31; e++) {
            Due.is("still told " + e, x.event(e, 0), 1);
        }
    }

    private static void eventNoneSuch() {
        WatchList x = new WatchList();
        for (int e : Wrong.events()) {
            for (int what = 0; what <= 2; what++) {
                Due.is("event " + e + ", " + what, x.event(e, what), NONE);
            }
        }
    }

    private static void eventNoSuchWhat() {
        WatchList x = new WatchList();
        for (int e : new int[] {0, 31}) {
            for (int what : Wrong.whats(3)) {
                Due.is("event " + e + ", " + what, x.event(e, what), NONE);
            }
        }
        for (int what : Wrong.whats(3)) {
            Due.is("neither, " + what, x.event(32, what), NONE);
        }
    }

    private static void countsThoseThatWait() {
        WatchList x = full();
        Due.is("full", x.count(2), 64);
        for (int left = 63; left >= 0; left--) {
            x.work();
            Due.is("left " + left, x.count(2), left);
        }
        x.work();
        Due.is("none", x.count(2), 0);
    }

    private static void lostSoFar() {
        WatchList x = full();
        Due.is("none", x.count(3), 0);
        x.raise(1, 1);
        Due.is("one too many", x.count(3), 1);
        x.add(1, 0, 1, 1, 1, 1, false);
        x.enable(1, true);
        x.watch();
        Due.is("one more by watching", x.count(3), 2);
        x.lose();
        Due.is("all that waited", x.count(3), 66);
        x.lose();
        Due.is("none waited", x.count(3), 66);
        x.raise(1, 1);
        x.lose();
        Due.is("one that waited", x.count(3), 67);
    }

    private static void zeroBeforeOneIsWorked() {
        WatchList x = new WatchList();
        Due.is("at first", x.count(4), 0);
        x.work();
        Due.is("none waits", x.count(4), 0);
        x.raise(3, 30);
        Due.is("one waits", x.count(4), 0);
        x.lose();
        Due.is("one is LOST", x.count(4), 0);
        x.raise(3, 31);
        x.work();
        Due.is("one is WORKED", x.count(4), 31);
    }

    private static void countAnotherWhat() {
        WatchList x = full();
        for (int what : Wrong.whats(5)) {
            Due.is("what " + what, x.count(what), NONE);
        }
        x.work();
        Due.is("the last what", x.count(4), 1);
    }

    private static void upToTheLastCall() {
        WatchList x = new WatchList();
        for (int n = 1; n <= 510; n++) {
            Due.is("raise no " + n, x.raise(n % 32, n), n <= 64);
        }
        Due.is("LOST, the 511th call", x.count(3), 446);
        Due.is("lose, the 512th call", x.lose(), 64);
    }
}

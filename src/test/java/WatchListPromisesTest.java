/** The promises of the document one after the other: ordinary inputs, edges, wrong inputs. */
public final class WatchListPromisesTest {
    private static final int MIN = Integer.MIN_VALUE;
    private static final int MAX = Integer.MAX_VALUE;
    private static final int NONE = WatchList.NONE;
    private static final int[] NO_EVENTS = {-1, 32, 99, 256, MIN, MAX};

    public static void main(String[] args) {
        newObject();
        newObjectsShareNothing();
        set();
        addOrdinary();
        addWrong();
        addOrderOfFailures();
        remove();
        enable();
        watchEdges();
        watchCountsOneAfterTheOther();
        watchGoesByIds();
        watchWithExtremes();
        watchLosesWhenFull();
        linked();
        raise();
        raiseFull();
        work();
        workGoesRound();
        lose();
        tell();
        put();
        act();
        actOrderOfFailures();
        actWholeText();
        drop();
        arm();
        limit();
        event();
        actionAt();
        count();
        Due.end();
    }

    private static void newObject() {
        Due.is("1 NONE", NONE, -1);
        WatchList x = new WatchList();
        for (int what = 0; what <= 4; what++) {
            Due.is("1 count " + what, x.count(what), 0);
        }
        for (int id = 0; id <= 255; id++) {
            Due.is("1 limit " + id, x.limit(id, 0), NONE);
        }
        for (int e = 0; e <= 31; e++) {
            Due.is("1 told " + e, x.event(e, 0), 1);
            Due.is("1 bytes " + e, x.event(e, 1), 0);
            Due.is("1 on " + e, x.event(e, 2), 0);
            Due.is("1 actionAt " + e, x.actionAt(e, 0), NONE);
        }
        Due.is("1 linked", x.linked(), false);
        Due.is("1 work", x.work(), NONE);
        Due.is("1 lose", x.lose(), 0);
        Due.is("1 watch", x.watch(), 0);
        Due.is("1 linked after watch", x.linked(), false);
        Due.is("1 first put", x.put(0), 1);
    }

    private static void newObjectsShareNothing() {
        WatchList x = new WatchList();
        x.add(1, 1, 1, 0, 0, 1, true);
        x.enable(1, true);
        x.set(1, 5);
        x.watch();
        x.tell(1, false);
        x.put(1);
        x.act(1);
        x.put(2);
        WatchList y = new WatchList();
        Due.is("1 other limits", y.count(0), 0);
        Due.is("1 other waiting", y.count(2), 0);
        Due.is("1 other told", y.event(1, 0), 1);
        Due.is("1 other action", y.event(1, 1), 0);
        Due.is("1 other linked", y.linked(), false);
        Due.is("1 other text", y.put(7), 1);
        y.add(1, 1, 1, 0, 0, 1, true);
        y.enable(1, true);
        Due.is("1 other parameter", y.watch(), 0);
    }

    private static void set() {
        for (int k = 0; k <= 31; k++) {
            WatchList x = new WatchList();
            x.add(1, k, 1, 0, 0, 1, false);
            x.enable(1, true);
            Due.is("2 0 at first " + k, x.watch(), 0);
            Due.is("2 set " + k, x.set(k, 40 + k), true);
            Due.is("2 watch " + k, x.watch(), 1);
            x.work();
            Due.is("2 value " + k, x.count(4), 40 + k);
            Due.is("2 set again " + k, x.set(k, 0), true);
            Due.is("2 watch again " + k, x.watch(), 0);
            Due.is("2 back to 0 " + k, x.limit(1, 1), 0);
        }
        WatchList x = new WatchList();
        x.add(1, 3, 1, 0, 0, 1, false);
        x.enable(1, true);
        for (int k = 0; k <= 31; k++) {
            if (k != 3) {
                x.set(k, 9);
            }
        }
        for (int k : new int[] {-1, 32, 35, MIN, MAX}) {
            Due.is("2 no parameter " + k, x.set(k, 9), false);
        }
        Due.is("2 others leave it", x.watch(), 0);
    }

    private static void addOrdinary() {
        WatchList x = new WatchList();
        Due.is("3 add", x.add(5, 2, 3, 10, 20, 7, true), 0);
        Due.is("3 it is off", x.limit(5, 0), 0);
        Due.is("3 count", x.limit(5, 1), 0);
        Due.is("3 limits", x.count(0), 1);
        Due.is("3 first of all", x.add(0, 0, 1, 0, 0, 0, false), 0);
        Due.is("3 last of all", x.add(255, 31, 255, MIN, MAX, 31, true), 0);
        Due.is("3 low is high", x.add(6, 1, 1, -4, -4, 1, false), 0);
        Due.is("3 limits after", x.count(0), 4);
        Due.is("3 an off limit is not watched", x.watch(), 0);
        Due.is("3 off counts nothing", x.limit(5, 1), 0);
    }

    private static void addWrong() {
        WatchList x = new WatchList();
        for (int times : new int[] {0, -1, 256, MIN, MAX}) {
            Due.is("3 times " + times, x.add(5, 2, times, 10, 20, 7, true), 13);
        }
        Due.is("3 low above high", x.add(5, 2, 3, 21, 20, 7, true), 13);
        Due.is("3 low far above high", x.add(5, 2, 3, MAX, MIN, 7, true), 13);
        for (int parameter : new int[] {-1, 32, MIN, MAX}) {
            Due.is("3 parameter " + parameter, x.add(5, parameter, 3, 10, 20, 7, true), 13);
        }
        for (int event : NO_EVENTS) {
            Due.is("3 event " + event, x.add(5, 2, 3, 10, 20, event, true), 13);
        }
        for (int id : new int[] {-1, 256, MIN, MAX}) {
            Due.is("3 id " + id, x.add(id, 2, 3, 10, 20, 7, true), 13);
        }
        Due.is("3 none came", x.count(0), 0);
        Due.is("3 none is there", x.limit(5, 0), NONE);
    }

    private static void addOrderOfFailures() {
        WatchList x = new WatchList();
        x.add(5, 2, 3, 10, 20, 7, true);
        Due.is("3 13 before 25", x.add(5, 2, 0, 10, 20, 7, true), 13);
        Due.is("3 25", x.add(5, 9, 9, 9, 9, 9, false), 25);
        Due.is("3 25 leaves it", x.limit(5, 2), 2);
        Due.is("3 25 leaves it linked", x.limit(5, 5), 1);
        for (int id = 100; id < 115; id++) {
            Due.is("3 add " + id, x.add(id, 0, 1, 0, 0, 1, false), 0);
        }
        Due.is("3 26", x.add(200, 0, 1, 0, 0, 1, false), 26);
        Due.is("3 26 adds none", x.count(0), 16);
        Due.is("3 26 is not there", x.limit(200, 0), NONE);
        Due.is("3 13 before 26", x.add(200, 32, 1, 0, 0, 1, false), 13);
        Due.is("3 25 before 26", x.add(114, 0, 1, 0, 0, 1, false), 25);
        x.remove(100);
        Due.is("3 room again", x.add(200, 0, 1, 0, 0, 1, false), 0);
        Due.is("3 full again", x.add(100, 0, 1, 0, 0, 1, false), 26);
    }

    private static void remove() {
        WatchList x = new WatchList();
        for (int id : new int[] {0, 5, 255, -1, 256, MIN, MAX}) {
            Due.is("4 none such " + id, x.remove(id), 27);
        }
        x.add(5, 2, 3, 10, 20, 7, true);
        x.add(6, 3, 4, 10, 20, 8, false);
        x.add(4, 1, 2, 10, 20, 6, false);
        Due.is("4 others", x.remove(7), 27);
        x.enable(5, true);
        Due.is("4 on", x.remove(5), 15);
        Due.is("4 on stays", x.limit(5, 0), 1);
        x.enable(5, false);
        Due.is("4 off", x.remove(5), 0);
        Due.is("4 gone", x.limit(5, 0), NONE);
        Due.is("4 again", x.remove(5), 27);
        Due.is("4 how many", x.count(0), 2);
        Due.is("4 one below stays", x.limit(4, 3), 2);
        Due.is("4 one above stays", x.limit(6, 3), 4);
        Due.is("4 never on", x.remove(6), 0);
        Due.is("4 the last", x.remove(4), 0);
        Due.is("4 none is left", x.count(0), 0);
        Due.is("4 add again", x.add(5, 9, 8, 1, 2, 3, false), 0);
        Due.is("4 new parameter", x.limit(5, 2), 9);
        Due.is("4 new linked", x.limit(5, 5), 0);
    }

    private static void enable() {
        WatchList x = new WatchList();
        for (int id : new int[] {0, 5, 255, -1, 256, MIN, MAX}) {
            Due.is("5 none such on " + id, x.enable(id, true), 27);
            Due.is("5 none such off " + id, x.enable(id, false), 27);
        }
        x.add(5, 2, 3, 10, 20, 7, true);
        x.add(6, 2, 3, 10, 20, 7, true);
        Due.is("5 on", x.enable(5, true), 0);
        Due.is("5 is on", x.limit(5, 0), 1);
        Due.is("5 the other is off", x.limit(6, 0), 0);
        x.watch();
        x.watch();
        Due.is("5 count", x.limit(5, 1), 2);
        Due.is("5 on again", x.enable(5, true), 0);
        Due.is("5 count is 0", x.limit(5, 1), 0);
        Due.is("5 not yet", x.watch(), 0);
        Due.is("5 off", x.enable(5, false), 0);
        Due.is("5 is off", x.limit(5, 0), 0);
        Due.is("5 count is 0 off", x.limit(5, 1), 0);
        Due.is("5 off again", x.enable(5, false), 0);
        x.watch();
        Due.is("5 off is not watched", x.limit(5, 1), 0);
        x.enable(5, true);
        x.watch();
        x.watch();
        Due.is("5 from 0 on", x.watch(), 1);
        x.enable(5, true);
        x.watch();
        x.watch();
        Due.is("5 BROKEN once more", x.watch(), 1);
    }

    private static void watchEdges() {
        int[] values = {9, 10, 11, 19, 20, 21, MIN, MAX, 0, -15};
        for (int value : values) {
            boolean outside = value < 10 || value > 20;
            WatchList x = new WatchList();
            x.add(5, 2, 1, 10, 20, 7, false);
            x.enable(5, true);
            x.set(2, value);
            Due.is("6 watch at " + value, x.watch(), outside ? 1 : 0);
            Due.is("6 count at " + value, x.limit(5, 1), outside ? 1 : 0);
            Due.is("6 waits at " + value, x.count(2), outside ? 1 : 0);
            Due.is("6 event at " + value, x.work(), outside ? 7 : NONE);
            Due.is("6 number at " + value, x.count(4), outside ? value : 0);
        }
    }

    private static void watchCountsOneAfterTheOther() {
        WatchList x = new WatchList();
        x.add(5, 2, 3, 10, 20, 7, false);
        x.enable(5, true);
        x.watch();
        x.watch();
        x.set(2, 15);
        x.watch();
        Due.is("6 inside: 0", x.limit(5, 1), 0);
        x.set(2, 99);
        Due.is("6 first", x.watch(), 0);
        Due.is("6 second", x.watch(), 0);
        Due.is("6 third", x.watch(), 1);
        for (int n = 4; n <= 300; n++) {
            Due.is("6 only once " + n, x.watch(), 0);
        }
        Due.is("6 the count goes on", x.limit(5, 1), 300);
        Due.is("6 one event", x.count(2), 1);
        x.set(2, 20);
        x.watch();
        x.set(2, 9);
        x.watch();
        x.watch();
        Due.is("6 once more", x.watch(), 1);
        Due.is("6 BROKEN so far", x.count(1), 2);

        WatchList most = new WatchList();
        most.add(0, 0, 255, 1, 1, 0, false);
        most.enable(0, true);
        for (int n = 1; n <= 254; n++) {
            Due.is("6 times 255 at " + n, most.watch(), 0);
        }
        Due.is("6 times 255", most.watch(), 1);
        Due.is("6 times 255 after", most.watch(), 0);
    }

    private static void watchGoesByIds() {
        int[] ids = {9, 255, 0, 128, 3, 7, 200, 4, 1, 127, 254, 64, 2, 100, 50, 31};
        int[] sorted = ids.clone();
        java.util.Arrays.sort(sorted);
        WatchList x = new WatchList();
        for (int i = 0; i < ids.length; i++) {
            x.add(ids[i], i, 1, -1, 1, i, false);
            x.enable(ids[i], true);
            x.set(i, 1000 + ids[i]);
        }
        Due.is("6 all", x.watch(), 16);
        for (int id : sorted) {
            Due.is("6 event by id " + id, x.work(), x.limit(id, 4));
            Due.is("6 number by id " + id, x.count(4), 1000 + id);
        }
        x.enable(64, false);
        x.remove(64);
        x.add(5, 31, 1, -1, 1, 30, false);
        x.enable(5, true);
        x.set(31, 1005);
        Due.is("6 the new one alone", x.watch(), 1);
        Due.is("6 its event", x.work(), 30);
        for (int id : new int[] {255, 5, 0}) {
            x.enable(id, true);
        }
        Due.is("6 three", x.watch(), 3);
        for (int id : new int[] {0, 5, 255}) {
            x.work();
            Due.is("6 in order " + id, x.count(4), 1000 + id);
        }
    }

    private static void watchWithExtremes() {
        WatchList x = new WatchList();
        x.add(1, 0, 1, MIN, MAX, 1, false);
        x.add(2, 0, 1, MIN, MIN, 2, false);
        x.add(3, 0, 1, MAX, MAX, 3, false);
        for (int id = 1; id <= 3; id++) {
            x.enable(id, true);
        }
        x.set(0, MIN);
        Due.is("6 lowest", x.watch(), 1);
        Due.is("6 lowest event", x.work(), 3);
        Due.is("6 lowest number", x.count(4), MIN);
        x.set(0, MAX);
        Due.is("6 highest", x.watch(), 1);
        Due.is("6 highest event", x.work(), 2);
        Due.is("6 highest number", x.count(4), MAX);
        Due.is("6 all ints are inside", x.limit(1, 1), 0);
    }

    private static void watchLosesWhenFull() {
        WatchList x = new WatchList();
        x.add(1, 0, 1, 1, 1, 20, true);
        x.add(2, 0, 1, 1, 1, 21, false);
        x.enable(1, true);
        x.enable(2, true);
        for (int i = 0; i < 63; i++) {
            x.raise(3, i);
        }
        Due.is("6 BROKEN though LOST", x.watch(), 2);
        Due.is("6 waiting", x.count(2), 64);
        Due.is("6 LOST", x.count(3), 1);
        Due.is("6 so far", x.count(1), 2);
        for (int i = 0; i < 63; i++) {
            x.work();
        }
        Due.is("6 the lower id waits", x.work(), 20);
        Due.is("6 the higher is lost", x.work(), NONE);

        WatchList full = new WatchList();
        full.add(1, 0, 1, 1, 1, 20, true);
        full.enable(1, true);
        for (int i = 0; i < 64; i++) {
            full.raise(3, i);
        }
        Due.is("6 BROKEN when full", full.watch(), 1);
        Due.is("7 linked though LOST", full.linked(), true);
    }

    private static void linked() {
        WatchList x = new WatchList();
        x.add(1, 1, 2, 0, 0, 1, true);
        x.add(2, 2, 1, 0, 0, 2, false);
        x.add(3, 3, 1, 0, 0, 3, false);
        for (int id = 1; id <= 3; id++) {
            x.enable(id, true);
        }
        x.set(2, 5);
        x.watch();
        Due.is("7 BROKEN, not linked", x.linked(), false);
        x.set(1, 5);
        x.watch();
        Due.is("7 not BROKEN yet", x.linked(), false);
        x.set(3, 5);
        Due.is("7 two", x.watch(), 2);
        Due.is("7 one of them is linked", x.linked(), true);
        Due.is("7 asking changes nothing", x.linked(), true);
        x.set(1, 0);
        x.raise(4, 4);
        x.work();
        x.lose();
        x.enable(1, false);
        Due.is("7 until it watches", x.linked(), true);
        x.watch();
        Due.is("7 watched again", x.linked(), false);
    }

    private static void raise() {
        WatchList x = new WatchList();
        for (int e : NO_EVENTS) {
            Due.is("8 none such " + e, x.raise(e, 1), false);
        }
        Due.is("8 none waits", x.count(2), 0);
        Due.is("8 none such is not LOST", x.count(3), 0);
        for (int e = 0; e <= 31; e++) {
            x.tell(e, e % 2 == 0);
            Due.is("8 raise " + e, x.raise(e, -e), true);
        }
        Due.is("8 waiting", x.count(2), 32);
        for (int e = 0; e <= 31; e++) {
            Due.is("8 work " + e, x.work(), e);
            Due.is("8 number " + e, x.count(4), -e);
        }
        Due.is("8 BROKEN are others", x.count(1), 0);
    }

    private static void raiseFull() {
        WatchList x = new WatchList();
        for (int i = 1; i <= 64; i++) {
            Due.is("8 raise " + i, x.raise(3, i), true);
            Due.is("8 waiting " + i, x.count(2), i);
        }
        Due.is("8 a further one", x.raise(4, 65), false);
        Due.is("8 is LOST", x.count(3), 1);
        Due.is("8 none such when full", x.raise(32, 65), false);
        Due.is("8 still one LOST", x.count(3), 1);
        Due.is("8 still 64", x.count(2), 64);
        x.work();
        Due.is("8 the first came first", x.count(4), 1);
        Due.is("8 room again", x.raise(5, 66), true);
        Due.is("8 full again", x.raise(6, 67), false);
        Due.is("8 two LOST", x.count(3), 2);
        for (int i = 2; i <= 64; i++) {
            Due.is("8 in order " + i, x.work(), 3);
            Due.is("8 number in order " + i, x.count(4), i);
        }
        Due.is("8 the last", x.work(), 5);
        Due.is("8 the last number", x.count(4), 66);
    }

    private static void work() {
        WatchList x = new WatchList();
        Due.is("9 none waits", x.work(), NONE);
        Due.is("9 0 before", x.count(4), 0);
        x.raise(8, 100);
        x.raise(0, -1);
        Due.is("9 0 before it is WORKED", x.count(4), 0);
        Due.is("9 first", x.work(), 8);
        Due.is("9 first number", x.count(4), 100);
        Due.is("9 one is left", x.count(2), 1);
        Due.is("9 second", x.work(), 0);
        Due.is("9 second number", x.count(4), -1);
        Due.is("9 none is left", x.work(), NONE);
        Due.is("9 the one that is WORKED stays", x.count(4), -1);
        Due.is("9 WORKED is not LOST", x.count(3), 0);
    }

    private static void workGoesRound() {
        WatchList x = new WatchList();
        int worked = 0;
        for (int i = 0; i < 150; i++) {
            x.raise(i % 32, i);
            if (i % 3 != 0) {
                Due.is("9 round " + i, x.work(), worked % 32);
                worked++;
            }
        }
        Due.is("9 round, number", x.count(4), worked - 1);
        Due.is("9 round, waiting", x.count(2), 50);
    }

    private static void lose() {
        WatchList x = new WatchList();
        Due.is("10 none", x.lose(), 0);
        x.raise(1, 11);
        x.work();
        for (int i = 0; i < 5; i++) {
            x.raise(2, i);
        }
        Due.is("10 five", x.lose(), 5);
        Due.is("10 none waits", x.count(2), 0);
        Due.is("10 five LOST", x.count(3), 5);
        Due.is("10 none to work", x.work(), NONE);
        Due.is("10 WORKED stays", x.count(4), 11);
        Due.is("10 again", x.lose(), 0);
        for (int i = 0; i < 70; i++) {
            x.raise(3, i);
        }
        Due.is("10 LOST when full", x.count(3), 11);
        Due.is("10 all 64", x.lose(), 64);
        Due.is("10 LOST in all", x.count(3), 75);
        x.raise(4, 44);
        Due.is("10 goes on", x.work(), 4);
        Due.is("10 goes on with its number", x.count(4), 44);
    }

    private static void tell() {
        WatchList x = new WatchList();
        for (int e : NO_EVENTS) {
            Due.is("11 none such on " + e, x.tell(e, true), 16);
            Due.is("11 none such off " + e, x.tell(e, false), 16);
        }
        for (int e = 0; e <= 31; e++) {
            Due.is("11 still told " + e, x.event(e, 0), 1);
            Due.is("11 off " + e, x.tell(e, false), 0);
            Due.is("11 is off " + e, x.event(e, 0), 0);
            Due.is("11 off again " + e, x.tell(e, false), 0);
        }
        Due.is("11 on", x.tell(31, true), 0);
        Due.is("11 is on", x.event(31, 0), 1);
        Due.is("11 the other is off", x.event(30, 0), 0);
    }

    private static void put() {
        WatchList x = new WatchList();
        int[] bytes = {0, 1, 127, 128, 255, 256, 257, -1, -128, MIN, MAX, 0x1234};
        for (int i = 0; i < bytes.length; i++) {
            Due.is("12 put " + bytes[i], x.put(bytes[i]), i + 1);
        }
        x.act(0);
        for (int i = 0; i < bytes.length; i++) {
            Due.is("12 byte " + bytes[i], x.actionAt(0, i), bytes[i] & 255);
        }
        for (int i = 1; i <= 256; i++) {
            Due.is("12 put no " + i, x.put(i), i);
        }
        Due.is("12 full", x.put(5), NONE);
        Due.is("12 still full", x.put(6), NONE);
        Due.is("12 the full text acts", x.act(1), 0);
        Due.is("12 256 bytes", x.event(1, 1), 256);
        Due.is("12 the last byte stays", x.actionAt(1, 255), 0);
        Due.is("12 from 1 again", x.put(5), 1);
    }

    private static void act() {
        WatchList x = new WatchList();
        for (int e = 0; e <= 31; e++) {
            Due.is("13 no byte " + e, x.act(e), 22);
            x.put(e + 1);
            x.put(e + 2);
            Due.is("13 act " + e, x.act(e), 0);
            Due.is("13 bytes " + e, x.event(e, 1), 2);
            Due.is("13 off " + e, x.event(e, 2), 0);
        }
        for (int e = 0; e <= 31; e++) {
            Due.is("13 byte 0 of " + e, x.actionAt(e, 0), e + 1);
            Due.is("13 byte 1 of " + e, x.actionAt(e, 1), e + 2);
        }
        x.put(77);
        Due.is("13 has one", x.act(4), 29);
        Due.is("13 the old one stays", x.actionAt(4, 0), 5);
        Due.is("13 with its size", x.event(4, 1), 2);
        Due.is("13 empty after 29", x.put(1), 1);
        Due.is("13 none such", x.act(32), 16);
        Due.is("13 empty after 16", x.put(1), 1);
        x.act(-1);
        x.arm(4, true);
        x.put(1);
        Due.is("13 has one that is on", x.act(4), 29);
        Due.is("13 which stays on", x.event(4, 2), 1);
    }

    private static void actOrderOfFailures() {
        WatchList x = new WatchList();
        for (int e : NO_EVENTS) {
            Due.is("13 16 before 22 for " + e, x.act(e), 16);
            x.put(1);
            Due.is("13 16 with a text for " + e, x.act(e), 16);
        }
        x.put(1);
        x.act(3);
        Due.is("13 22 before 29", x.act(3), 22);
        x.put(1);
        x.arm(3, true);
        x.arm(3, false);
        x.drop(3);
        Due.is("13 after drop", x.act(3), 0);
    }

    private static void actWholeText() {
        WatchList x = new WatchList();
        for (int i = 0; i < 256; i++) {
            x.put(255 - i);
        }
        x.act(31);
        x.put(9);
        x.act(30);
        Due.is("13 one byte", x.event(30, 1), 1);
        Due.is("13 no old byte behind it", x.actionAt(30, 1), NONE);
        Due.is("13 all bytes", x.event(31, 1), 256);
        // Every second byte, since an object is promised to answer 512 calls only.
        for (int i = 1; i < 256; i += 2) {
            Due.is("13 byte " + i, x.actionAt(31, i), 255 - i);
        }
    }

    private static void drop() {
        WatchList x = new WatchList();
        for (int e : NO_EVENTS) {
            Due.is("14 none such " + e, x.drop(e), 16);
        }
        for (int e = 0; e <= 31; e++) {
            Due.is("14 no action " + e, x.drop(e), 30);
        }
        x.put(1);
        x.act(3);
        x.put(2);
        x.act(4);
        x.arm(3, true);
        Due.is("14 on", x.drop(3), 15);
        Due.is("14 on stays", x.event(3, 1), 1);
        Due.is("14 still on", x.event(3, 2), 1);
        x.arm(3, false);
        Due.is("14 off", x.drop(3), 0);
        Due.is("14 gone", x.event(3, 1), 0);
        Due.is("14 no byte", x.actionAt(3, 0), NONE);
        Due.is("14 again", x.drop(3), 30);
        Due.is("14 the other stays", x.actionAt(4, 0), 2);
        x.put(8);
        x.put(9);
        Due.is("14 a new one", x.act(3), 0);
        Due.is("14 its bytes", x.event(3, 1), 2);
        x.put(7);
        Due.is("14 never on", x.drop(3), 0);
        Due.is("14 the text stays", x.put(7), 2);
    }

    private static void arm() {
        WatchList x = new WatchList();
        for (int e : NO_EVENTS) {
            Due.is("15 none such on " + e, x.arm(e, true), 16);
            Due.is("15 none such off " + e, x.arm(e, false), 16);
        }
        Due.is("15 no action on", x.arm(3, true), 30);
        Due.is("15 no action off", x.arm(3, false), 30);
        Due.is("15 still off", x.event(3, 2), 0);
        x.put(1);
        x.act(3);
        x.put(1);
        x.act(4);
        Due.is("15 on", x.arm(3, true), 0);
        Due.is("15 is on", x.event(3, 2), 1);
        Due.is("15 on again", x.arm(3, true), 0);
        Due.is("15 the other is off", x.event(4, 2), 0);
        Due.is("15 off", x.arm(3, false), 0);
        Due.is("15 is off", x.event(3, 2), 0);
        Due.is("15 off again", x.arm(3, false), 0);
        x.drop(3);
        Due.is("15 gone", x.arm(3, true), 30);
    }

    private static void limit() {
        WatchList x = new WatchList();
        x.add(5, 2, 3, 10, 20, 7, true);
        x.add(255, 31, 255, 10, 20, 31, false);
        x.enable(5, true);
        x.watch();
        int[] first = {1, 1, 2, 3, 7, 1};
        int[] second = {0, 0, 31, 255, 31, 0};
        for (int what = 0; what <= 5; what++) {
            Due.is("16 limit 5, " + what, x.limit(5, what), first[what]);
            Due.is("16 limit 255, " + what, x.limit(255, what), second[what]);
            for (int id : new int[] {0, 4, 6, 254, -1, 256, 261, MIN, MAX}) {
                Due.is("16 none such " + id, x.limit(id, what), NONE);
            }
        }
        for (int what : new int[] {-1, 6, 7, MIN, MAX}) {
            Due.is("16 no such what " + what, x.limit(5, what), NONE);
            Due.is("16 neither " + what, x.limit(6, what), NONE);
        }
    }

    private static void event() {
        WatchList x = new WatchList();
        x.put(1);
        x.put(2);
        x.put(3);
        x.act(31);
        x.arm(31, true);
        x.tell(31, false);
        Due.is("17 told", x.event(31, 0), 0);
        Due.is("17 bytes", x.event(31, 1), 3);
        Due.is("17 on", x.event(31, 2), 1);
        Due.is("17 told of another", x.event(0, 0), 1);
        Due.is("17 bytes of another", x.event(0, 1), 0);
        Due.is("17 on of another", x.event(0, 2), 0);
        for (int what : new int[] {-1, 3, 4, MIN, MAX}) {
            Due.is("17 no such what " + what, x.event(31, what), NONE);
        }
        for (int e : NO_EVENTS) {
            for (int what = -1; what <= 3; what++) {
                Due.is("17 none such " + e + ", " + what, x.event(e, what), NONE);
            }
        }
    }

    private static void actionAt() {
        WatchList x = new WatchList();
        x.put(200);
        x.put(0);
        x.put(-1);
        Due.is("18 a text is no action", x.actionAt(3, 0), NONE);
        x.act(3);
        Due.is("18 byte 0", x.actionAt(3, 0), 200);
        Due.is("18 byte 1", x.actionAt(3, 1), 0);
        Due.is("18 byte 2", x.actionAt(3, 2), 255);
        for (int k : new int[] {-1, 3, 255, 256, MIN, MAX}) {
            Due.is("18 no byte " + k, x.actionAt(3, k), NONE);
        }
        Due.is("18 no action", x.actionAt(4, 0), NONE);
        for (int e : NO_EVENTS) {
            Due.is("18 none such " + e, x.actionAt(e, 0), NONE);
        }
        for (int i = 0; i < 256; i++) {
            x.put(i);
        }
        x.act(0);
        Due.is("18 last of 256", x.actionAt(0, 255), 255);
        Due.is("18 none behind 256", x.actionAt(0, 256), NONE);
        x.arm(0, true);
        Due.is("18 one that is on", x.actionAt(0, 77), 77);
    }

    private static void count() {
        WatchList x = new WatchList();
        x.add(1, 0, 1, 1, 1, 1, false);
        x.add(2, 0, 1, 1, 1, 2, false);
        x.add(3, 0, 1, 1, 1, 3, false);
        x.enable(1, true);
        x.enable(2, true);
        x.set(0, -7);
        x.watch();
        x.raise(4, 4);
        x.raise(5, 5);
        x.work();
        Due.is("19 limits", x.count(0), 3);
        Due.is("19 BROKEN", x.count(1), 2);
        Due.is("19 waiting", x.count(2), 3);
        Due.is("19 none LOST", x.count(3), 0);
        Due.is("19 WORKED", x.count(4), -7);
        x.lose();
        Due.is("19 LOST", x.count(3), 3);
        x.enable(1, false);
        x.remove(1);
        Due.is("19 a limit less", x.count(0), 2);
        Due.is("19 BROKEN so far stays", x.count(1), 2);
        for (int what : new int[] {-1, 5, 6, MIN, MAX}) {
            Due.is("19 no such what " + what, x.count(what), NONE);
        }
    }
}

/** The sentences about parameters and limits that name a boundary case, each with its own test. */
public final class LimitBoundariesTest {
    private static final int MIN = Integer.MIN_VALUE;
    private static final int MAX = Integer.MAX_VALUE;
    private static final int NONE = WatchList.NONE;

    public static void main(String[] args) {
        parameters();
        adding();
        changing();
        watching();
        telling();
        Due.end();
    }

    private static void parameters() {
        Due.sentence("Terms: PARAMETERS 0 .. 31", LimitBoundariesTest::parametersFirstAndLast);
        Due.sentence("Terms: are ints", LimitBoundariesTest::parametersAreInts);
        Due.sentence("Terms: 0 at first", LimitBoundariesTest::parametersAreZeroAtFirst);
        Due.sentence("Promise 2: false if there is none such", LimitBoundariesTest::noSuchParameterToSet);
    }

    private static void adding() {
        Due.sentence("Promise 1: No limits", LimitBoundariesTest::noLimitsAtFirst);
        Due.sentence("Terms: A LIMIT has an id 0 .. 255", LimitBoundariesTest::firstAndLastId);
        Due.sentence("Promise 3: A new limit, off", LimitBoundariesTest::newLimitIsOff);
        Due.sentence("Promise 3: 13 if times is below 1", LimitBoundariesTest::timesBelowOne);
        Due.sentence("Promise 3: or above 255", LimitBoundariesTest::timesAbove255);
        Due.sentence("Promise 3: low above high", LimitBoundariesTest::lowAboveHigh);
        Due.sentence("Promise 3: or there is no such parameter", LimitBoundariesTest::addWithoutParameter);
        Due.sentence("Promise 3: event", LimitBoundariesTest::addWithoutEvent);
        Due.sentence("Promise 3: or id", LimitBoundariesTest::addWithoutId);
        Due.sentence("Promise 3: 25 if the id is there", LimitBoundariesTest::idIsThere);
        Due.sentence("Promise 3: 26 if 16 are", LimitBoundariesTest::sixteenAreThere);
        Due.sentence("Terms: At most 16 are there", LimitBoundariesTest::atMostSixteen);
    }

    private static void changing() {
        Due.sentence("Promise 4: The limit is gone", LimitBoundariesTest::removedFromEachPlace);
        Due.sentence("Promise 4: 27 if there is none such", LimitBoundariesTest::removeNoneSuch);
        Due.sentence("Promise 4: 15 if it is on", LimitBoundariesTest::removeOneThatIsOn);
        Due.sentence("Promise 5: It is on, or off", LimitBoundariesTest::onOrOff);
        Due.sentence("Promise 5: its count is 0", LimitBoundariesTest::enableClearsTheCount);
        Due.sentence("Promise 5: 27 if there is none such", LimitBoundariesTest::enableNoneSuch);
    }

    private static void watching() {
        Due.sentence("Terms: limits that are on", LimitBoundariesTest::offIsNotWatched);
        Due.sentence("Terms: by ids", LimitBoundariesTest::byIds);
        Due.sentence("Terms: if the parameter's value is LOW .. HIGH, the count is 0",
                LimitBoundariesTest::insideUpToBothEnds);
        Due.sentence("Terms: else it is one more", LimitBoundariesTest::outsideIsOneMore);
        Due.sentence("Terms: where it is TIMES then, the limit is BROKEN", LimitBoundariesTest::brokenAtTimes);
        Due.sentence("Terms: else it is one more, and where it is TIMES then", LimitBoundariesTest::goesOnAboveTimes);
        Due.sentence("Terms: its event is RAISED with the value", LimitBoundariesTest::raisedWithTheValue);
        Due.sentence("Promise 6: how many are BROKEN", LimitBoundariesTest::noneToAllAreBroken);
        Due.sentence("Promise 7: one that was BROKEN", LimitBoundariesTest::linkedNeedsOneBroken);
        Due.sentence("Promise 7: when it watched last", LimitBoundariesTest::linkedIsOfTheLastWatch);
        Due.sentence("Promise 7: is linked", LimitBoundariesTest::linkedInEachPlace);
    }

    private static void telling() {
        Due.sentence("Promise 16: 1 if it is on, 0 if not", LimitBoundariesTest::tellsOnAndOff);
        Due.sentence("Promise 16: NONE if there is none such", LimitBoundariesTest::limitNoneSuch);
        Due.sentence("Promise 16: or for another what", LimitBoundariesTest::limitAnotherWhat);
        Due.sentence("Promise 19: 0: how many limits there are", LimitBoundariesTest::countsNoneToSixteen);
        Due.sentence("Promise 19: 1: limits BROKEN so far", LimitBoundariesTest::brokenSoFar);
    }

    /** Limit 5 of parameter 2, which is 0 yet; its event is 7. */
    private static WatchList withLimitOn(int times, int low, int high) {
        WatchList x = new WatchList();
        x.add(5, 2, times, low, high, 7, false);
        x.enable(5, true);
        return x;
    }

    private static int addPlain(WatchList x, int id) {
        return x.add(id, 0, 1, 1, 1, 1, false);
    }

    /** Ids 10, 20 .. 160, all off. */
    private static WatchList full() {
        WatchList x = new WatchList();
        for (int i = 1; i <= 16; i++) {
            addPlain(x, 10 * i);
        }
        return x;
    }

    private static void parametersFirstAndLast() {
        for (int k : new int[] {0, 31}) {
            WatchList x = new WatchList();
            Due.is("add on " + k, x.add(1, k, 1, 0, 0, 1, false), 0);
            x.enable(1, true);
            Due.is("set " + k, x.set(k, 4), true);
            Due.is("the other end", x.set(31 - k, 0), true);
            Due.is("watch " + k, x.watch(), 1);
        }
    }

    private static void parametersAreInts() {
        for (int v : new int[] {MIN, MIN + 1, -65536, -1, 1, 255, 256, 65536, MAX - 1, MAX}) {
            WatchList x = withLimitOn(1, 0, 0);
            x.set(2, v);
            x.watch();
            x.work();
            Due.is("value " + v, x.count(4), v);
        }
    }

    private static void parametersAreZeroAtFirst() {
        for (int k = 0; k <= 31; k++) {
            WatchList x = new WatchList();
            x.add(1, k, 1, 0, 0, 1, false);
            x.enable(1, true);
            Due.is("parameter " + k, x.watch(), 0);
        }
    }

    private static void noSuchParameterToSet() {
        for (int k : Wrong.parameters()) {
            WatchList x = new WatchList();
            for (int p = 0; p < 16; p++) {
                x.add(p, p, 1, 0, 0, 1, false);
                x.enable(p, true);
            }
            WatchList y = new WatchList();
            for (int p = 16; p < 32; p++) {
                y.add(p, p, 1, 0, 0, 1, false);
                y.enable(p, true);
            }
            Due.is("set " + k, x.set(k, 9), false);
            Due.is("set " + k + " again", y.set(k, 9), false);
            Due.is("0 .. 15 stay after " + k, x.watch(), 0);
            Due.is("16 .. 31 stay after " + k, y.watch(), 0);
        }
    }

    private static void noLimitsAtFirst() {
        WatchList x = new WatchList();
        Due.is("limits", x.count(0), 0);
        Due.is("watch", x.watch(), 0);
        for (int id = 0; id <= 255; id++) {
            Due.is("limit " + id, x.limit(id, 3), NONE);
        }
    }

    private static void firstAndLastId() {
        WatchList x = new WatchList();
        for (int id : new int[] {255, 0, 254, 1}) {
            Due.is("add " + id, addPlain(x, id), 0);
            Due.is("limit " + id, x.limit(id, 3), 1);
        }
        Due.is("limits", x.count(0), 4);
    }

    private static void newLimitIsOff() {
        WatchList x = withLimitOn(3, 1, 1);
        x.watch();
        x.enable(5, false);
        x.remove(5);
        for (int id : new int[] {5, 6}) {
            Due.is("add " + id, addPlain(x, id), 0);
            Due.is("off " + id, x.limit(id, 0), 0);
            Due.is("count " + id, x.limit(id, 1), 0);
        }
        Due.is("watch", x.watch(), 0);
    }

    private static void timesBelowOne() {
        WatchList x = new WatchList();
        for (int times : new int[] {0, -1, -255, -256, MIN}) {
            Due.is("times " + times, x.add(5, 2, times, 10, 20, 7, true), 13);
        }
        Due.is("none came", x.count(0), 0);
        Due.is("times 1", x.add(5, 2, 1, 10, 20, 7, true), 0);
        Due.is("has 1", x.limit(5, 3), 1);
    }

    private static void timesAbove255() {
        WatchList x = new WatchList();
        for (int times : new int[] {256, 257, 512, 65537, MAX}) {
            Due.is("times " + times, x.add(5, 2, times, 10, 20, 7, true), 13);
        }
        Due.is("none came", x.count(0), 0);
        Due.is("times 255", x.add(5, 2, 255, 10, 20, 7, true), 0);
        Due.is("has 255", x.limit(5, 3), 255);
    }

    private static void lowAboveHigh() {
        int[][] above = {{21, 20}, {1, 0}, {0, -1}, {MAX, MAX - 1}, {MIN + 1, MIN}, {MAX, MIN}, {MAX, -1}, {0, MIN}};
        WatchList x = new WatchList();
        for (int[] pair : above) {
            Due.is(pair[0] + " .. " + pair[1], x.add(5, 2, 3, pair[0], pair[1], 7, true), 13);
        }
        Due.is("none came", x.count(0), 0);
        int[][] right = {{20, 20}, {20, 21}, {MIN, MIN}, {MAX, MAX}, {MIN, MAX}, {-1, MAX}, {MIN, 0}};
        for (int i = 0; i < right.length; i++) {
            Due.is(right[i][0] + " .. " + right[i][1], x.add(i, 2, 3, right[i][0], right[i][1], 7, true), 0);
        }
    }

    private static void addWithoutParameter() {
        WatchList x = new WatchList();
        for (int k : Wrong.parameters()) {
            Due.is("parameter " + k, x.add(5, k, 3, 10, 20, 7, true), 13);
        }
        Due.is("none came", x.count(0), 0);
        Due.is("parameter 0", x.add(5, 0, 3, 10, 20, 7, true), 0);
        Due.is("parameter 31", x.add(6, 31, 3, 10, 20, 7, true), 0);
        Due.is("has 0", x.limit(5, 2), 0);
        Due.is("has 31", x.limit(6, 2), 31);
    }

    private static void addWithoutEvent() {
        WatchList x = new WatchList();
        for (int e : Wrong.events()) {
            Due.is("event " + e, x.add(5, 2, 3, 10, 20, e, true), 13);
        }
        Due.is("none came", x.count(0), 0);
        Due.is("event 0", x.add(5, 2, 3, 10, 20, 0, true), 0);
        Due.is("event 31", x.add(6, 2, 3, 10, 20, 31, true), 0);
        Due.is("has 0", x.limit(5, 4), 0);
        Due.is("has 31", x.limit(6, 4), 31);
    }

    private static void addWithoutId() {
        WatchList x = new WatchList();
        for (int id : Wrong.ids()) {
            Due.is("id " + id, addPlain(x, id), 13);
            Due.is("not there " + id, x.limit(id, 0), NONE);
        }
        Due.is("none came", x.count(0), 0);
    }

    private static void idIsThere() {
        for (int id : new int[] {0, 5, 255}) {
            WatchList x = new WatchList();
            x.add(id, 2, 3, 10, 20, 7, true);
            Due.is("the same again " + id, x.add(id, 2, 3, 10, 20, 7, true), 25);
            x.enable(id, true);
            x.watch();
            Due.is("another " + id, x.add(id, 9, 8, 0, 0, 6, false), 25);
            int[] stays = {1, 1, 2, 3, 7, 1};
            for (int what = 0; what <= 5; what++) {
                Due.is("stays " + id + ", " + what, x.limit(id, what), stays[what]);
            }
            Due.is("limits " + id, x.count(0), 1);
            Due.is("the next id", addPlain(x, id ^ 1), 0);
        }
    }

    private static void sixteenAreThere() {
        WatchList x = full();
        for (int id : new int[] {0, 15, 255}) {
            Due.is("add " + id, addPlain(x, id), 26);
            Due.is("not there " + id, x.limit(id, 0), NONE);
        }
        Due.is("still 16", x.count(0), 16);
        for (int i = 1; i <= 16; i++) {
            Due.is("there " + 10 * i, x.limit(10 * i, 3), 1);
        }
        x.remove(80);
        Due.is("room for one", addPlain(x, 255), 0);
        Due.is("full again", addPlain(x, 80), 26);
    }

    private static void atMostSixteen() {
        WatchList x = new WatchList();
        for (int n = 1; n <= 16; n++) {
            Due.is("add no " + n, addPlain(x, 255 - n), 0);
            Due.is("are there " + n, x.count(0), n);
        }
        Due.is("one more", addPlain(x, 255), 26);
        Due.is("are there still", x.count(0), 16);
    }

    private static void removedFromEachPlace() {
        for (int gone = 10; gone <= 160; gone += 10) {
            WatchList x = full();
            Due.is("remove " + gone, x.remove(gone), 0);
            Due.is("left " + gone, x.count(0), 15);
            for (int id = 10; id <= 160; id += 10) {
                Due.is(id + " without " + gone, x.limit(id, 3), id == gone ? NONE : 1);
                Due.is("enable " + id + " without " + gone, x.enable(id, true), id == gone ? 27 : 0);
            }
            Due.is("watch without " + gone, x.watch(), 15);
            Due.is("another in its room", addPlain(x, 85), 0);
            for (int id = 10; id <= 160; id += 10) {
                Due.is(id + " beside another for " + gone, x.limit(id, 1), id == gone ? NONE : 1);
            }
        }
        WatchList x = new WatchList();
        addPlain(x, 5);
        Due.is("the only one", x.remove(5), 0);
        Due.is("none is left", x.count(0), 0);
    }

    private static void removeNoneSuch() {
        WatchList x = new WatchList();
        Due.is("none at all", x.remove(0), 27);
        addPlain(x, 5);
        for (int id : Wrong.ids()) {
            Due.is("remove " + id, x.remove(id), 27);
        }
        for (int id : new int[] {0, 4, 6, 255}) {
            Due.is("remove " + id, x.remove(id), 27);
        }
        Due.is("one is left", x.count(0), 1);
        x.remove(5);
        Due.is("twice", x.remove(5), 27);
        Due.is("none is left", x.count(0), 0);
    }

    private static void removeOneThatIsOn() {
        WatchList x = withLimitOn(2, 1, 1);
        x.watch();
        Due.is("on", x.remove(5), 15);
        Due.is("is there", x.count(0), 1);
        Due.is("still on", x.limit(5, 0), 1);
        Due.is("its count stays", x.limit(5, 1), 1);
        Due.is("is watched", x.watch(), 1);
        Due.is("BROKEN and on", x.remove(5), 15);
        x.enable(5, false);
        Due.is("off", x.remove(5), 0);
    }

    private static void onOrOff() {
        WatchList x = new WatchList();
        addPlain(x, 0);
        addPlain(x, 255);
        for (boolean on : new boolean[] {false, true, true, false, false, true}) {
            Due.is("enable 255 " + on, x.enable(255, on), 0);
            Due.is("limit 255 " + on, x.limit(255, 0), on ? 1 : 0);
            Due.is("watch " + on, x.watch(), on ? 1 : 0);
            Due.is("limit 0 stays off", x.limit(0, 0), 0);
        }
    }

    private static void enableClearsTheCount() {
        for (boolean on : new boolean[] {true, false}) {
            for (int watched = 1; watched <= 4; watched++) {
                WatchList x = withLimitOn(3, 1, 1);
                for (int n = 0; n < watched; n++) {
                    x.watch();
                }
                Due.is("count before", x.limit(5, 1), watched);
                Due.is("enable " + on, x.enable(5, on), 0);
                Due.is("count after " + watched + ", " + on, x.limit(5, 1), 0);
                x.enable(5, true);
                Due.is("first", x.watch(), 0);
                Due.is("second", x.watch(), 0);
                Due.is("third", x.watch(), 1);
            }
        }
    }

    private static void enableNoneSuch() {
        WatchList x = new WatchList();
        Due.is("none at all", x.enable(0, true), 27);
        addPlain(x, 5);
        for (int id : Wrong.ids()) {
            Due.is("on " + id, x.enable(id, true), 27);
            Due.is("off " + id, x.enable(id, false), 27);
        }
        for (int id : new int[] {0, 4, 6, 255}) {
            Due.is("on " + id, x.enable(id, true), 27);
        }
        Due.is("5 stays off", x.limit(5, 0), 0);
        x.remove(5);
        Due.is("gone", x.enable(5, true), 27);
        addPlain(x, 5);
        Due.is("there again, off", x.limit(5, 0), 0);
    }

    private static void offIsNotWatched() {
        WatchList x = full();
        Due.is("all are off", x.watch(), 0);
        Due.is("none counts", x.limit(10, 1), 0);
        x.enable(80, true);
        Due.is("one is on", x.watch(), 1);
        Due.is("70 counts nothing", x.limit(70, 1), 0);
        Due.is("90 counts nothing", x.limit(90, 1), 0);
        x.enable(80, false);
        Due.is("off again", x.watch(), 0);
        Due.is("80 counts nothing", x.limit(80, 1), 0);
        Due.is("one event", x.count(2), 1);
    }

    private static void byIds() {
        int[][] orders = {{0, 1, 2, 255}, {255, 2, 1, 0}, {127, 128, 0, 255}, {128, 255, 127, 1}, {7, 5, 6, 4}};
        for (int[] ids : orders) {
            WatchList x = new WatchList();
            for (int i = 0; i < ids.length; i++) {
                x.add(ids[i], i, 1, 0, 0, 31 - i, false);
                x.set(i, 1000 + ids[i]);
            }
            // Turned on against the order of adding, so that neither order can stand for the ids.
            for (int i = ids.length - 1; i >= 0; i--) {
                x.enable(ids[i], true);
            }
            Due.is("watch", x.watch(), ids.length);
            int[] sorted = ids.clone();
            java.util.Arrays.sort(sorted);
            for (int id : sorted) {
                Due.is("event of " + id, x.work(), x.limit(id, 4));
                Due.is("number of " + id, x.count(4), 1000 + id);
            }
        }
    }

    private static void insideUpToBothEnds() {
        int[][] ranges = {{10, 20}, {-20, -10}, {-5, 5}, {7, 7}, {MIN, MIN}, {MAX, MAX}, {MIN, -1}, {1, MAX}, {MIN, MAX}};
        for (int[] range : ranges) {
            int between = (int) Math.floorDiv((long) range[0] + range[1], 2L);
            for (int v : new int[] {range[0], between, range[1]}) {
                WatchList x = withLimitOn(2, range[0], range[1]);
                // One step out of the range at first; of MIN .. MAX there is no such step.
                x.set(2, range[1] < MAX ? range[1] + 1 : range[0] - 1);
                x.watch();
                Due.is("count before " + v, x.limit(5, 1), range[0] == MIN && range[1] == MAX ? 0 : 1);
                x.set(2, v);
                Due.is(v + " in " + range[0] + " .. " + range[1], x.watch(), 0);
                Due.is("count at " + v, x.limit(5, 1), 0);
            }
        }
    }

    private static void outsideIsOneMore() {
        int[][] outside = {{10, 20, 9}, {10, 20, 21}, {10, 20, MIN}, {10, 20, MAX}, {-20, -10, -21}, {-20, -10, -9},
            {MIN, MIN, MIN + 1}, {MAX, MAX, MAX - 1}, {MIN, -1, 0}, {1, MAX, 0}, {MIN, MAX - 1, MAX}, {MIN + 1, MAX, MIN}};
        for (int[] one : outside) {
            WatchList x = withLimitOn(255, one[0], one[1]);
            x.set(2, one[0]);
            x.watch();
            x.set(2, one[2]);
            for (int n = 1; n <= 3; n++) {
                x.watch();
                Due.is(one[2] + " out of " + one[0] + " .. " + one[1], x.limit(5, 1), n);
            }
        }
    }

    private static void brokenAtTimes() {
        for (int times : new int[] {1, 2, 3, 127, 128, 254, 255}) {
            WatchList x = withLimitOn(times, 1, 1);
            for (int n = 1; n < times; n++) {
                Due.is(n + " of " + times, x.watch(), 0);
            }
            Due.is("none BROKEN before " + times, x.count(1), 0);
            Due.is("none waits before " + times, x.count(2), 0);
            Due.is("BROKEN at " + times, x.watch(), 1);
            Due.is("one BROKEN at " + times, x.count(1), 1);
            Due.is("one waits at " + times, x.count(2), 1);
        }
        WatchList x = withLimitOn(2, 1, 1);
        for (int n = 0; n < 5; n++) {
            Due.is("outside", x.watch(), 0);
            x.set(2, 1);
            Due.is("inside", x.watch(), 0);
            x.set(2, 0);
        }
        Due.is("not one after the other", x.count(1), 0);
    }

    /** 506 watches: the count is no byte that comes round to TIMES once more. */
    private static void goesOnAboveTimes() {
        for (int times : new int[] {1, 3, 249, 255}) {
            WatchList x = withLimitOn(times, 1, 1);
            for (int n = 1; n <= 506; n++) {
                Due.is("watch " + n + " of " + times, x.watch(), n == times ? 1 : 0);
            }
            Due.is("count", x.limit(5, 1), 506);
            Due.is("BROKEN once", x.count(1), 1);
        }
    }

    private static void raisedWithTheValue() {
        WatchList x = new WatchList();
        x.add(0, 31, 2, 0, 0, 31, false);
        x.add(255, 0, 1, 0, 0, 0, false);
        x.enable(0, true);
        x.enable(255, true);
        x.set(31, MAX);
        x.watch();
        Due.is("none yet", x.count(2), 0);
        x.set(31, MIN);
        x.set(0, -1);
        x.watch();
        // What the parameter becomes afterwards is not what the event was RAISED with.
        x.set(31, 5);
        x.set(0, 6);
        Due.is("event 31", x.work(), 31);
        Due.is("the value that broke it", x.count(4), MIN);
        Due.is("event 0", x.work(), 0);
        Due.is("the other value", x.count(4), -1);
    }

    private static void noneToAllAreBroken() {
        Due.is("no limits", new WatchList().watch(), 0);
        for (int on = 0; on <= 16; on++) {
            WatchList x = full();
            for (int i = 1; i <= on; i++) {
                x.enable(10 * i, true);
            }
            Due.is("on " + on, x.watch(), on);
            Due.is("not again " + on, x.watch(), 0);
        }
    }

    private static void linkedNeedsOneBroken() {
        WatchList x = new WatchList();
        Due.is("before the first watch", x.linked(), false);
        x.add(1, 1, 2, 1, 1, 1, true);
        x.add(2, 2, 1, 1, 1, 2, false);
        x.enable(1, true);
        x.enable(2, true);
        Due.is("only 2", x.watch(), 1);
        Due.is("1 counts, but is not BROKEN", x.linked(), false);
        x.watch();
        Due.is("1 is BROKEN", x.linked(), true);
    }

    private static void linkedIsOfTheLastWatch() {
        WatchList x = withLimitOn(1, 1, 1);
        x.add(6, 2, 1, 1, 1, 8, true);
        x.enable(6, true);
        Due.is("both", x.watch(), 2);
        Due.is("linked", x.linked(), true);
        x.raise(1, 1);
        x.lose();
        x.work();
        x.set(2, 1);
        x.enable(6, false);
        Due.is("off since", x.linked(), true);
        x.remove(6);
        Due.is("gone since", x.linked(), true);
        x.add(6, 2, 1, 1, 1, 8, false);
        Due.is("another one under its id", x.linked(), true);
        x.watch();
        Due.is("watched again", x.linked(), false);
    }

    private static void linkedInEachPlace() {
        for (int place = 0; place <= 16; place++) {
            WatchList x = new WatchList();
            for (int id = 0; id < 16; id++) {
                x.add(id, 0, 1, 1, 1, 1, id == place);
                x.enable(id, true);
            }
            Due.is("all", x.watch(), 16);
            Due.is("linked is " + place, x.linked(), place < 16);
        }
    }

    private static void tellsOnAndOff() {
        WatchList x = new WatchList();
        addPlain(x, 5);
        Due.is("new", x.limit(5, 0), 0);
        x.enable(5, true);
        Due.is("on", x.limit(5, 0), 1);
        x.watch();
        Due.is("BROKEN", x.limit(5, 0), 1);
        x.enable(5, false);
        Due.is("off", x.limit(5, 0), 0);
    }

    private static void limitNoneSuch() {
        WatchList x = new WatchList();
        addPlain(x, 0);
        addPlain(x, 255);
        for (int what = 0; what <= 5; what++) {
            for (int id : Wrong.ids()) {
                Due.is("limit " + id + ", " + what, x.limit(id, what), NONE);
            }
            for (int id : new int[] {1, 128, 254}) {
                Due.is("limit " + id + ", " + what, x.limit(id, what), NONE);
            }
        }
        x.remove(0);
        x.remove(255);
        Due.is("0 is gone", x.limit(0, 3), NONE);
        Due.is("255 is gone", x.limit(255, 3), NONE);
    }

    private static void limitAnotherWhat() {
        WatchList x = new WatchList();
        x.add(5, 2, 3, 10, 20, 7, true);
        x.enable(5, true);
        for (int what : Wrong.whats(6)) {
            Due.is("what " + what, x.limit(5, what), NONE);
            Due.is("neither limit nor what " + what, x.limit(6, what), NONE);
        }
        Due.is("the last what", x.limit(5, 5), 1);
    }

    private static void countsNoneToSixteen() {
        WatchList x = new WatchList();
        Due.is("none", x.count(0), 0);
        for (int n = 1; n <= 16; n++) {
            addPlain(x, n);
            Due.is("added " + n, x.count(0), n);
        }
        addPlain(x, 99);
        Due.is("refused", x.count(0), 16);
        for (int n = 16; n >= 1; n--) {
            x.remove(n);
            Due.is("removed " + n, x.count(0), n - 1);
        }
        x.remove(1);
        Due.is("none to remove", x.count(0), 0);
    }

    private static void brokenSoFar() {
        WatchList x = full();
        Due.is("none", x.count(1), 0);
        for (int round = 1; round <= 10; round++) {
            for (int i = 1; i <= 16; i++) {
                x.enable(10 * i, true);
            }
            x.watch();
            // Most of these events are LOST, and their limits are BROKEN all the same.
            Due.is("round " + round, x.count(1), 16 * round);
        }
        x.enable(10, false);
        x.remove(10);
        x.lose();
        Due.is("stays", x.count(1), 160);
    }
}

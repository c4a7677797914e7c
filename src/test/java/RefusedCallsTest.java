import java.util.Arrays;
import java.util.function.ToIntFunction;

/**
 * A refused call answers the first failure in the order that is told, and changes nothing but the
 * text that act() spends.
 */
public final class RefusedCallsTest {
    private static final int NONE = WatchList.NONE;

    public static void main(String[] args) {
        Due.sentence("Terms: the first in the order that is told (add)", RefusedCallsTest::orderOfAdd);
        Due.sentence("Terms: the first in the order that is told (act)", RefusedCallsTest::orderOfAct);
        Due.sentence("Terms: the first in the order that is told (drop)", RefusedCallsTest::orderOfDrop);
        Due.sentence("Terms: the first in the order that is told (remove)", RefusedCallsTest::orderOfRemove);
        limits();
        events();
        actions();
        Due.sentence("The constants: NONE = -1", () -> Due.is("NONE", NONE, -1));
        Due.end();
    }

    private static void orderOfAdd() {
        WatchList x = new WatchList();
        x.add(5, 2, 3, 10, 20, 7, true);
        wrongAdds(x, 5);
        Due.is("25", x.add(5, 2, 3, 10, 20, 7, true), 25);
        for (int id = 100; id < 115; id++) {
            x.add(id, 0, 1, 0, 0, 1, false);
        }
        wrongAdds(x, 5);
        wrongAdds(x, 6);
        Due.is("13 for no such id", x.add(256, 2, 3, 10, 20, 7, true), 13);
        Due.is("25 before 26", x.add(5, 2, 3, 10, 20, 7, true), 25);
        Due.is("26", x.add(6, 2, 3, 10, 20, 7, true), 26);
    }

    private static void wrongAdds(WatchList x, int id) {
        Due.is("13 for times 0", x.add(id, 2, 0, 10, 20, 7, true), 13);
        Due.is("13 for times 256", x.add(id, 2, 256, 10, 20, 7, true), 13);
        Due.is("13 for low above high", x.add(id, 2, 3, 21, 20, 7, true), 13);
        Due.is("13 for the parameter", x.add(id, 32, 3, 10, 20, 7, true), 13);
        Due.is("13 for the event", x.add(id, 2, 3, 10, 20, 32, true), 13);
    }

    private static void orderOfAct() {
        WatchList x = someState();
        Due.is("29", x.act(3), 29);
        Due.is("22 before 29", x.act(3), 22);
        Due.is("22", x.act(5), 22);
        Due.is("16 before 22", x.act(32), 16);
        x.put(1);
        Due.is("16", x.act(32), 16);
    }

    private static void orderOfDrop() {
        WatchList x = someState();
        Due.is("16 before 30", x.drop(32), 16);
        Due.is("16 before 30, arm", x.arm(32, true), 16);
        Due.is("30", x.drop(5), 30);
        Due.is("15", x.drop(4), 15);
    }

    private static void orderOfRemove() {
        WatchList x = someState();
        Due.is("27", x.remove(50), 27);
        Due.is("15", x.remove(9), 15);
    }

    private static void limits() {
        refused("Promise 2: false if there is none such", 0, x -> x.set(32, 1) ? 1 : 0);
        refused("Promise 2: false if there is none such", 0, x -> x.set(-1, 1) ? 1 : 0);
        refused("Promise 3: 13 if times is below 1", 13, x -> x.add(50, 2, 0, 10, 20, 7, true));
        refused("Promise 3: or above 255", 13, x -> x.add(50, 2, 256, 10, 20, 7, true));
        refused("Promise 3: low above high", 13, x -> x.add(50, 2, 3, 21, 20, 7, true));
        refused("Promise 3: or there is no such parameter", 13, x -> x.add(50, 32, 3, 10, 20, 7, true));
        refused("Promise 3: event", 13, x -> x.add(50, 2, 3, 10, 20, 32, true));
        refused("Promise 3: or id", 13, x -> x.add(256, 2, 3, 10, 20, 7, true));
        refused("Promise 3: 25 if the id is there", 25, x -> x.add(9, 9, 9, 9, 9, 9, false));
        refused("Promise 4: 27 if there is none such", 27, x -> x.remove(50));
        refused("Promise 4: 15 if it is on", 15, x -> x.remove(9));
        refused("Promise 5: 27 if there is none such", 27, x -> x.enable(50, true));
        refused("Promise 5: 27 if there is none such", 27, x -> x.enable(-1, false));
    }

    private static void events() {
        refused("Promise 8: false if there is none such", 0, x -> x.raise(32, 1) ? 1 : 0);
        refused("Promise 8: false if there is none such", 0, x -> x.raise(-1, 1) ? 1 : 0);
        refused("Promise 11: 16 if there is none such", 16, x -> x.tell(32, false));
        refused("Promise 11: 16 if there is none such", 16, x -> x.tell(-1, true));
        refused("Promise 16: NONE if there is none such", NONE, x -> x.limit(50, 0));
        refused("Promise 16: or for another what", NONE, x -> x.limit(9, 6));
        refused("Promise 17: NONE for no such event or what", NONE, x -> x.event(32, 0));
        refused("Promise 17: NONE for no such event or what", NONE, x -> x.event(3, 3));
        refused("Promise 19: NONE for another what", NONE, x -> x.count(5));
    }

    private static void actions() {
        refused("Promise 14: 16", 16, x -> x.drop(32));
        refused("Promise 14: 30 if there is none", 30, x -> x.drop(5));
        refused("Promise 14: 15 if it is on", 15, x -> x.drop(4));
        refused("Promise 15: 16", 16, x -> x.arm(32, true));
        refused("Promise 15: 16; 30", 30, x -> x.arm(5, true));
        refused("Promise 18: NONE if there is none", NONE, x -> x.actionAt(3, 2));
        refused("Promise 18: NONE if there is none", NONE, x -> x.actionAt(32, 0));
        spends("Promise 13: 16 if there is none such", 16, x -> x.act(32));
        spends("Promise 13: 29 if it has one", 29, x -> x.act(4));
    }

    private static void refused(String words, int answer, ToIntFunction<WatchList> call) {
        Due.sentence(words + " (changes nothing)", () -> comparedWithUntouched(answer, call, 3));
    }

    private static void spends(String words, int answer, ToIntFunction<WatchList> call) {
        Due.sentence(words + " (only the text is empty)", () -> comparedWithUntouched(answer, call, 1));
    }

    private static void comparedWithUntouched(int answer, ToIntFunction<WatchList> call, int nextPut) {
        WatchList x = someState();
        Due.is("answer", call.applyAsInt(x), answer);
        Due.is("next put", x.put(1), nextPut);
        int[] touched = answers(x);
        int[] untouched = answers(someState());
        for (int i = 0; i < untouched.length; i++) {
            Due.is("answer " + i + " afterwards", touched[i], untouched[i]);
        }
    }

    /** Two limits, one of them on and BROKEN; two actions, one of them on; two bytes of text. */
    private static WatchList someState() {
        WatchList x = new WatchList();
        x.put(30);
        x.put(31);
        x.act(3);
        x.put(40);
        x.act(4);
        x.arm(4, true);
        x.tell(4, false);
        x.add(9, 0, 2, 1, 1, 4, true);
        x.add(20, 1, 1, 0, 0, 5, false);
        x.enable(9, true);
        x.raise(6, 60);
        x.raise(7, 70);
        x.work();
        x.watch();
        x.watch();
        x.put(1);
        x.put(2);
        return x;
    }

    /** All that the object tells of itself, and in the end what its parameters and its queue hold. */
    private static int[] answers(WatchList x) {
        int[] all = new int[200];
        int n = 0;
        for (int id : new int[] {0, 9, 20, 50, 255}) {
            for (int what = 0; what <= 5; what++) {
                all[n++] = x.limit(id, what);
            }
        }
        for (int e = 0; e <= 31; e++) {
            for (int what = 0; what <= 2; what++) {
                all[n++] = x.event(e, what);
            }
        }
        for (int k = 0; k <= 2; k++) {
            all[n++] = x.actionAt(3, k);
            all[n++] = x.actionAt(4, k);
        }
        all[n++] = x.linked() ? 1 : 0;
        for (int what = 0; what <= 4; what++) {
            all[n++] = x.count(what);
        }
        for (int i = 0; i < 3; i++) {
            all[n++] = x.work();
            all[n++] = x.count(4);
        }
        x.enable(9, true);
        x.enable(20, true);
        for (int i = 0; i < 2; i++) {
            all[n++] = x.watch();
            all[n++] = x.work();
            all[n++] = x.count(4);
        }
        return Arrays.copyOf(all, n);
    }
}

/** The sentences about the text and the actions that name a boundary case, each with its own test. */
public final class ActionBoundariesTest {
    private static final int MIN = Integer.MIN_VALUE;
    private static final int MAX = Integer.MAX_VALUE;
    private static final int NONE = WatchList.NONE;

    public static void main(String[] args) {
        writing();
        acting();
        changing();
        telling();
        Due.end();
    }

    private static void writing() {
        Due.sentence("Promise 12: A byte more of the text", ActionBoundariesTest::textIsEmptyAtFirst);
        Due.sentence("Promise 12: the lowest eight bits of b", ActionBoundariesTest::lowestEightBits);
        Due.sentence("Promise 12: how many it has", ActionBoundariesTest::oneToTwoHundredFiftySix);
        Due.sentence("Promise 12: NONE if it has 256", ActionBoundariesTest::fullTextTakesNoMore);
    }

    private static void acting() {
        Due.sentence("Terms: is 1 to 256 bytes", ActionBoundariesTest::oneByteAndAll);
        Due.sentence("Promise 13: is the action of an event", ActionBoundariesTest::firstAndLastEventActs);
        Due.sentence("Promise 13: the action of an event, off", ActionBoundariesTest::newActionIsOff);
        Due.sentence("Promise 13: 16 if there is none such", ActionBoundariesTest::actNoneSuch);
        Due.sentence("Promise 13: 22 if the text has no byte", ActionBoundariesTest::actWithoutText);
        Due.sentence("Promise 13: 29 if it has one", ActionBoundariesTest::actOnOneThatHasOne);
        Due.sentence("Promise 13: which is empty then, whatever comes of it", ActionBoundariesTest::textIsSpent);
    }

    private static void changing() {
        Due.sentence("Promise 14: The action is gone", ActionBoundariesTest::droppedIsGone);
        Due.sentence("Promise 14: 16", ActionBoundariesTest::dropNoneSuch);
        Due.sentence("Promise 14: 30 if there is none", ActionBoundariesTest::dropWithoutAction);
        Due.sentence("Promise 14: 15 if it is on", ActionBoundariesTest::dropOneThatIsOn);
        Due.sentence("Promise 15: The action is on, or off", ActionBoundariesTest::onOrOff);
        Due.sentence("Promise 15: 16", ActionBoundariesTest::armNoneSuch);
        Due.sentence("Promise 15: 16; 30", ActionBoundariesTest::armWithoutAction);
    }

    private static void telling() {
        Due.sentence("Promise 1: No limits, events, actions", ActionBoundariesTest::noActionsAtFirst);
        Due.sentence("Promise 17: how many bytes its action has, 0 without one", ActionBoundariesTest::zeroWithoutOne);
        Due.sentence("Promise 17: 1 if that is on, 0 if not", ActionBoundariesTest::tellsOnAndOff);
        Due.sentence("Promise 18: Byte k of the action", ActionBoundariesTest::firstAndLastByte);
        Due.sentence("Promise 18: NONE if there is none", ActionBoundariesTest::noByteThere);
        Due.sentence("Promise 18: NONE if there is none (no such event)", ActionBoundariesTest::byteOfNoEvent);
        Due.sentence("What it is: An object is used for at most 512 calls", ActionBoundariesTest::upToTheLastCall);
    }

    private static void write(WatchList x, int... bytes) {
        for (int b : bytes) {
            x.put(b);
        }
    }

    /** Bytes from, from + 1 .. in so many puts. */
    private static void writeMany(WatchList x, int from, int size) {
        for (int i = 0; i < size; i++) {
            x.put(from + i);
        }
    }

    private static WatchList withAction(int event, int... bytes) {
        WatchList x = new WatchList();
        write(x, bytes);
        x.act(event);
        return x;
    }

    private static void textIsEmptyAtFirst() {
        Due.is("first byte", new WatchList().put(0), 1);
        Due.is("no text", new WatchList().act(0), 22);
    }

    private static void lowestEightBits() {
        int[] bs = {0, 1, 127, 128, 129, 254, 255, 256, 257, 511, 65535, 65536, -1, -2, -128, -129, -255, -256, MIN,
            MIN + 1, MAX, MAX - 1};
        WatchList x = withAction(0, bs);
        for (int i = 0; i < bs.length; i++) {
            Due.is("byte " + bs[i], x.actionAt(0, i), bs[i] & 255);
        }
        WatchList all = new WatchList();
        writeMany(all, -256, 256);
        all.act(0);
        for (int i = 0; i < 254; i++) {
            Due.is("byte " + (i - 256), all.actionAt(0, i), i);
        }
    }

    private static void oneToTwoHundredFiftySix() {
        WatchList x = new WatchList();
        for (int n = 1; n <= 256; n++) {
            Due.is("put no " + n, x.put(-n), n);
        }
    }

    private static void fullTextTakesNoMore() {
        WatchList x = new WatchList();
        writeMany(x, 0, 255);
        Due.is("the 256th", x.put(255), 256);
        for (int n = 0; n < 3; n++) {
            Due.is("one more", x.put(77), NONE);
        }
        Due.is("acts", x.act(31), 0);
        Due.is("256 bytes", x.event(31, 1), 256);
        Due.is("the first byte stays", x.actionAt(31, 0), 0);
        Due.is("the last byte stays", x.actionAt(31, 255), 255);
        Due.is("empty again", x.put(1), 1);
    }

    private static void oneByteAndAll() {
        for (int size : new int[] {1, 2, 127, 128, 255, 256}) {
            WatchList x = new WatchList();
            writeMany(x, 3, size);
            Due.is("act with " + size, x.act(9), 0);
            Due.is("bytes " + size, x.event(9, 1), size);
            Due.is("last of " + size, x.actionAt(9, size - 1), (size + 2) & 255);
            Due.is("behind " + size, x.actionAt(9, size), NONE);
        }
    }

    private static void firstAndLastEventActs() {
        WatchList x = new WatchList();
        for (int e = 0; e <= 31; e++) {
            write(x, e, 255 - e);
            Due.is("act " + e, x.act(e), 0);
        }
        for (int e = 0; e <= 31; e++) {
            Due.is("bytes of " + e, x.event(e, 1), 2);
            Due.is("byte 0 of " + e, x.actionAt(e, 0), e);
            Due.is("byte 1 of " + e, x.actionAt(e, 1), 255 - e);
        }
    }

    private static void newActionIsOff() {
        WatchList x = withAction(3, 1);
        Due.is("off", x.event(3, 2), 0);
        x.arm(3, true);
        x.arm(3, false);
        x.drop(3);
        write(x, 2);
        x.act(3);
        Due.is("the next one is off", x.event(3, 2), 0);
        Due.is("and can be dropped", x.drop(3), 0);
    }

    private static void actNoneSuch() {
        for (int e : Wrong.events()) {
            WatchList x = new WatchList();
            Due.is("without text " + e, x.act(e), 16);
            write(x, 1, 2);
            Due.is("with text " + e, x.act(e), 16);
            for (int event = 0; event <= 31; event++) {
                Due.is("no action came to " + event, x.event(event, 1), 0);
            }
        }
    }

    private static void actWithoutText() {
        WatchList x = new WatchList();
        for (int e = 0; e <= 31; e++) {
            Due.is("act " + e, x.act(e), 22);
            Due.is("no action came to " + e, x.event(e, 1), 0);
        }
        write(x, 1);
        x.act(0);
        Due.is("the text is spent", x.act(1), 22);
        Due.is("though it has one", x.act(0), 22);
        Due.is("which stays", x.event(0, 1), 1);
    }

    private static void actOnOneThatHasOne() {
        for (boolean on : new boolean[] {false, true}) {
            WatchList x = withAction(31, 5, 6);
            x.arm(31, on);
            write(x, 7, 8, 9);
            Due.is("act", x.act(31), 29);
            Due.is("bytes stay", x.event(31, 1), 2);
            Due.is("byte 0 stays", x.actionAt(31, 0), 5);
            Due.is("byte 1 stays", x.actionAt(31, 1), 6);
            Due.is("no byte 2", x.actionAt(31, 2), NONE);
            Due.is("on stays " + on, x.event(31, 2), on ? 1 : 0);
        }
    }

    private static void textIsSpent() {
        WatchList x = new WatchList();
        write(x, 1, 2, 3);
        Due.is("done", x.act(3), 0);
        Due.is("empty after 0", x.put(1), 1);
        Due.is("no such event", x.act(32), 16);
        Due.is("empty after 16", x.put(1), 1);
        Due.is("has one", x.act(3), 29);
        Due.is("empty after 29", x.act(3), 22);
        Due.is("empty after 22", x.put(1), 1);
        Due.is("only the new byte", x.act(4), 0);
        Due.is("one byte", x.event(4, 1), 1);
        WatchList full = new WatchList();
        writeMany(full, 0, 256);
        Due.is("no such event", full.act(-1), 16);
        Due.is("empty after a full one", full.put(1), 1);
    }

    private static void droppedIsGone() {
        for (int e : new int[] {0, 31}) {
            WatchList x = withAction(e, 5, 6, 7);
            write(x, 8);
            x.act(15);
            Due.is("drop " + e, x.drop(e), 0);
            Due.is("bytes " + e, x.event(e, 1), 0);
            Due.is("byte 0 of " + e, x.actionAt(e, 0), NONE);
            Due.is("arm " + e, x.arm(e, true), 30);
            Due.is("the other stays", x.actionAt(15, 0), 8);
            write(x, 9);
            Due.is("a new one " + e, x.act(e), 0);
            Due.is("its byte", x.actionAt(e, 0), 9);
            Due.is("no old byte behind it", x.actionAt(e, 1), NONE);
        }
    }

    private static void dropNoneSuch() {
        WatchList x = withAction(0, 1);
        write(x, 2);
        x.act(31);
        for (int e : Wrong.events()) {
            Due.is("drop " + e, x.drop(e), 16);
        }
        Due.is("0 stays", x.event(0, 1), 1);
        Due.is("31 stays", x.event(31, 1), 1);
    }

    private static void dropWithoutAction() {
        WatchList x = new WatchList();
        for (int e = 0; e <= 31; e++) {
            Due.is("drop " + e, x.drop(e), 30);
        }
        write(x, 1);
        Due.is("a text is no action", x.drop(0), 30);
        x.act(0);
        x.drop(0);
        Due.is("twice", x.drop(0), 30);
    }

    private static void dropOneThatIsOn() {
        WatchList x = withAction(31, 5, 6);
        x.arm(31, true);
        Due.is("on", x.drop(31), 15);
        Due.is("again", x.drop(31), 15);
        Due.is("bytes stay", x.event(31, 1), 2);
        Due.is("still on", x.event(31, 2), 1);
        Due.is("byte 1 stays", x.actionAt(31, 1), 6);
        x.arm(31, false);
        Due.is("off", x.drop(31), 0);
    }

    private static void onOrOff() {
        WatchList x = withAction(0, 1);
        write(x, 2);
        x.act(31);
        for (boolean on : new boolean[] {false, true, true, false, false, true}) {
            Due.is("arm 31 " + on, x.arm(31, on), 0);
            Due.is("31 is on " + on, x.event(31, 2), on ? 1 : 0);
            Due.is("0 stays off", x.event(0, 2), 0);
        }
    }

    private static void armNoneSuch() {
        WatchList x = withAction(0, 1);
        write(x, 2);
        x.act(31);
        for (int e : Wrong.events()) {
            Due.is("on " + e, x.arm(e, true), 16);
            Due.is("off " + e, x.arm(e, false), 16);
            Due.is("on again " + e, x.arm(e, true), 16);
        }
        Due.is("0 stays off", x.event(0, 2), 0);
        Due.is("31 stays off", x.event(31, 2), 0);
    }

    private static void armWithoutAction() {
        WatchList x = new WatchList();
        for (int e = 0; e <= 31; e++) {
            Due.is("off " + e, x.arm(e, false), 30);
            Due.is("on " + e, x.arm(e, true), 30);
            Due.is("not on " + e, x.event(e, 2), 0);
        }
        write(x, 1);
        x.act(5);
        Due.is("a new one is off", x.event(5, 2), 0);
        x.drop(5);
        Due.is("gone", x.arm(5, true), 30);
    }

    private static void noActionsAtFirst() {
        WatchList x = new WatchList();
        for (int e = 0; e <= 31; e++) {
            Due.is("bytes " + e, x.event(e, 1), 0);
            Due.is("on " + e, x.event(e, 2), 0);
            Due.is("byte 0 of " + e, x.actionAt(e, 0), NONE);
            Due.is("drop " + e, x.drop(e), 30);
        }
    }

    private static void zeroWithoutOne() {
        WatchList x = withAction(30, 1);
        Due.is("with one byte", x.event(30, 1), 1);
        Due.is("beside it", x.event(31, 1), 0);
        write(x, 1, 2);
        Due.is("a text is no action", x.event(31, 1), 0);
        x.drop(30);
        Due.is("without it", x.event(30, 1), 0);
    }

    private static void tellsOnAndOff() {
        WatchList x = withAction(31, 1);
        x.tell(31, true);
        Due.is("told, and off", x.event(31, 2), 0);
        x.arm(31, true);
        x.tell(31, false);
        Due.is("on, and not told", x.event(31, 2), 1);
        Due.is("not told", x.event(31, 0), 0);
        x.arm(31, false);
        x.drop(31);
        Due.is("gone", x.event(31, 2), 0);
    }

    private static void firstAndLastByte() {
        WatchList x = new WatchList();
        writeMany(x, 100, 256);
        x.act(31);
        for (int k : new int[] {0, 1, 127, 128, 155, 156, 254, 255}) {
            Due.is("byte " + k, x.actionAt(31, k), (100 + k) & 255);
        }
        x.arm(31, true);
        Due.is("of one that is on", x.actionAt(31, 255), 99);
    }

    private static void noByteThere() {
        WatchList x = withAction(31, 200, 0, 255);
        for (int k : new int[] {-1, 3, 4, 255, 256, -253, MIN, MAX}) {
            Due.is("byte " + k, x.actionAt(31, k), NONE);
            Due.is("of one without action " + k, x.actionAt(30, k), NONE);
        }
        Due.is("byte 0 of one without action", x.actionAt(30, 0), NONE);
        WatchList full = new WatchList();
        writeMany(full, 0, 256);
        Due.is("of the text", full.actionAt(0, 0), NONE);
        full.act(0);
        for (int k : new int[] {-1, 256, 257, 512, MIN, MAX}) {
            Due.is("of 256, byte " + k, full.actionAt(0, k), NONE);
        }
    }

    private static void byteOfNoEvent() {
        WatchList x = withAction(0, 1, 2);
        write(x, 3, 4);
        x.act(31);
        for (int e : Wrong.events()) {
            for (int k : new int[] {0, 1, -1, 256, MIN, MAX}) {
                Due.is("event " + e + ", byte " + k, x.actionAt(e, k), NONE);
            }
        }
    }

    private static void upToTheLastCall() {
        WatchList x = new WatchList();
        for (int n = 1; n <= 511; n++) {
            Due.is("put no " + n, x.put(n), n <= 256 ? n : NONE);
        }
        Due.is("act, the 512th call", x.act(0), 0);
    }
}

/**
 * Watches over a spacecraft: limits of numbers that must be broken several times one after the
 * other before that counts, events that are raised and worked in order, and actions that wait for
 * them.
 */
public final class WatchList {
    /** Nothing there. */
    public static final int NONE = -1;

    private static final int PARAMETERS = 32;
    private static final int IDS = 256;
    private static final int MOST_LIMITS = 16;
    private static final int MOST_TIMES = 255;
    private static final int EVENTS = 32;
    private static final int MOST_WAITING = 64;
    private static final int MOST_BYTES = 256;

    private static final int DONE = 0;
    private static final int NOT_A_LIMIT = 13;
    private static final int STILL_ON = 15;
    private static final int NO_EVENT = 16;
    private static final int NO_TEXT = 22;
    private static final int ID_TAKEN = 25;
    private static final int LIMITS_FULL = 26;
    private static final int NO_LIMIT = 27;
    private static final int ACTION_TAKEN = 29;
    private static final int NO_ACTION = 30;

    private final int[] parameters = new int[PARAMETERS];

    // The first limitCount are there, in the order of their ids, so that watching goes by ids;
    // those behind them are spare and wait to be used again.
    private final Limit[] limits = new Limit[MOST_LIMITS];
    private int limitCount;
    private int brokenSoFar;
    private boolean linkedBroken;

    private final Event[] events = new Event[EVENTS];
    private final Queue waiting = new Queue();
    private int lostSoFar;
    private int workedNumber;

    private final byte[] text = new byte[MOST_BYTES];
    private int textSize;

    public WatchList() {
        for (int i = 0; i < MOST_LIMITS; i++) {
            limits[i] = new Limit();
        }
        for (int i = 0; i < EVENTS; i++) {
            events[i] = new Event();
        }
    }

    public boolean set(int k, int v) {
        if (!isParameter(k)) {
            return false;
        }
        parameters[k] = v;
        return true;
    }

    public int add(int id, int parameter, int times, int low, int high, int event, boolean linked) {
        boolean known = isId(id) && isParameter(parameter) && isEvent(event);
        if (!known || times < 1 || times > MOST_TIMES || low > high) {
            return NOT_A_LIMIT;
        }
        if (placeOf(id) != NONE) {
            return ID_TAKEN;
        }
        if (limitCount >= MOST_LIMITS) {
            return LIMITS_FULL;
        }
        Limit fresh = openPlaceFor(id);
        fresh.begin(id, parameter, times, low, high, event, linked);
        return DONE;
    }

    public int remove(int id) {
        int place = placeOf(id);
        if (place == NONE) {
            return NO_LIMIT;
        }
        if (limits[place].on) {
            return STILL_ON;
        }
        closePlace(place);
        return DONE;
    }

    public int enable(int id, boolean on) {
        int place = placeOf(id);
        if (place == NONE) {
            return NO_LIMIT;
        }
        limits[place].turn(on);
        return DONE;
    }

    public int watch() {
        int broken = 0;
        linkedBroken = false;
        for (int i = 0; i < limitCount; i++) {
            Limit limit = limits[i];
            int value = parameters[limit.parameter];
            if (limit.on && limit.breaksAt(value)) {
                broken++;
                linkedBroken = linkedBroken || limit.linked;
                waitOrLose(limit.event, value);
            }
        }
        brokenSoFar += broken;
        return broken;
    }

    public boolean linked() {
        return linkedBroken;
    }

    public boolean raise(int event, int number) {
        return isEvent(event) && waitOrLose(event, number);
    }

    public int work() {
        if (waiting.size == 0) {
            return NONE;
        }
        int event = waiting.firstEvent();
        workedNumber = waiting.firstNumber();
        waiting.takeFirst();
        return event;
    }

    public int lose() {
        int lost = waiting.size;
        waiting.empty();
        lostSoFar += lost;
        return lost;
    }

    public int tell(int event, boolean on) {
        if (!isEvent(event)) {
            return NO_EVENT;
        }
        events[event].told = on;
        return DONE;
    }

    public int put(int b) {
        if (textSize >= MOST_BYTES) {
            return NONE;
        }
        text[textSize] = (byte) b;
        textSize++;
        return textSize;
    }

    public int act(int event) {
        int size = textSize;
        // The text is spent by every call, also by one that fails.
        textSize = 0;
        if (!isEvent(event)) {
            return NO_EVENT;
        }
        if (size == 0) {
            return NO_TEXT;
        }
        if (events[event].hasAction()) {
            return ACTION_TAKEN;
        }
        events[event].takeAction(text, size);
        return DONE;
    }

    public int drop(int event) {
        int failure = actionFailure(event);
        if (failure != DONE) {
            return failure;
        }
        if (events[event].actionOn) {
            return STILL_ON;
        }
        events[event].actionSize = 0;
        return DONE;
    }

    public int arm(int event, boolean on) {
        int failure = actionFailure(event);
        if (failure != DONE) {
            return failure;
        }
        events[event].actionOn = on;
        return DONE;
    }

    public int limit(int id, int what) {
        int place = placeOf(id);
        return place == NONE ? NONE : limits[place].tellOf(what);
    }

    public int event(int event, int what) {
        return isEvent(event) ? events[event].tellOf(what) : NONE;
    }

    public int actionAt(int event, int k) {
        return isEvent(event) ? events[event].byteAt(k) : NONE;
    }

    public int count(int what) {
        switch (what) {
            case 0:
                return limitCount;
            case 1:
                return brokenSoFar;
            case 2:
                return waiting.size;
            case 3:
                return lostSoFar;
            case 4:
                return workedNumber;
            default:
                return NONE;
        }
    }

    private static boolean isParameter(int k) {
        return k >= 0 && k < PARAMETERS;
    }

    private static boolean isId(int id) {
        return id >= 0 && id < IDS;
    }

    private static boolean isEvent(int event) {
        return event >= 0 && event < EVENTS;
    }

    private static int oneIf(boolean is) {
        return is ? 1 : 0;
    }

    private int placeOf(int id) {
        for (int i = 0; i < limitCount; i++) {
            if (limits[i].id == id) {
                return i;
            }
        }
        return NONE;
    }

    /** Only while there is a spare limit: puts it where its id belongs. */
    private Limit openPlaceFor(int id) {
        Limit spare = limits[limitCount];
        int place = limitCount;
        while (place > 0 && limits[place - 1].id > id) {
            limits[place] = limits[place - 1];
            place--;
        }
        limits[place] = spare;
        limitCount++;
        return spare;
    }

    private void closePlace(int place) {
        Limit spare = limits[place];
        limitCount--;
        for (int i = place; i < limitCount; i++) {
            limits[i] = limits[i + 1];
        }
        limits[limitCount] = spare;
    }

    private boolean waitOrLose(int event, int number) {
        if (waiting.size >= MOST_WAITING) {
            lostSoFar++;
            return false;
        }
        waiting.append(event, number);
        return true;
    }

    private int actionFailure(int event) {
        if (!isEvent(event)) {
            return NO_EVENT;
        }
        return events[event].hasAction() ? DONE : NO_ACTION;
    }

    private static final class Limit {
        private int id;
        private int parameter;
        private int times;
        private int low;
        private int high;
        private int event;
        private boolean linked;
        private boolean on;
        private int outside;

        private void begin(int newId, int newParameter, int newTimes, int newLow, int newHigh,
                int newEvent, boolean newLinked) {
            id = newId;
            parameter = newParameter;
            times = newTimes;
            low = newLow;
            high = newHigh;
            event = newEvent;
            linked = newLinked;
            turn(false);
        }

        private void turn(boolean newOn) {
            on = newOn;
            outside = 0;
        }

        /** The count goes on above times, so that one long breach is BROKEN only once. */
        private boolean breaksAt(int value) {
            if (value >= low && value <= high) {
                outside = 0;
                return false;
            }
            outside++;
            return outside == times;
        }

        private int tellOf(int what) {
            switch (what) {
                case 0:
                    return oneIf(on);
                case 1:
                    return outside;
                case 2:
                    return parameter;
                case 3:
                    return times;
                case 4:
                    return event;
                case 5:
                    return oneIf(linked);
                default:
                    return NONE;
            }
        }
    }

    private static final class Event {
        private boolean told = true;
        // An action has at least one byte, so the size 0 says that there is none.
        private final byte[] action = new byte[MOST_BYTES];
        private int actionSize;
        private boolean actionOn;

        private boolean hasAction() {
            return actionSize > 0;
        }

        private void takeAction(byte[] bytes, int size) {
            System.arraycopy(bytes, 0, action, 0, size);
            actionSize = size;
            actionOn = false;
        }

        private int byteAt(int k) {
            return k >= 0 && k < actionSize ? action[k] & 0xFF : NONE;
        }

        private int tellOf(int what) {
            switch (what) {
                case 0:
                    return oneIf(told);
                case 1:
                    return actionSize;
                case 2:
                    return oneIf(actionOn);
                default:
                    return NONE;
            }
        }
    }

    /** A ring, so that taking the first out moves none of the others; its users look at size. */
    private static final class Queue {
        private final int[] events = new int[MOST_WAITING];
        private final int[] numbers = new int[MOST_WAITING];
        private int first;
        private int size;

        private void append(int event, int number) {
            int place = (first + size) % MOST_WAITING;
            events[place] = event;
            numbers[place] = number;
            size++;
        }

        private int firstEvent() {
            return events[first];
        }

        private int firstNumber() {
            return numbers[first];
        }

        private void takeFirst() {
            first = (first + 1) % MOST_WAITING;
            size--;
        }

        private void empty() {
            size = 0;
        }
    }
}

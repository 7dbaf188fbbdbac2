/**
 * Stations that let weather balloons up. The document of this class, ../shared/DOC.md, says in numbered promises what
 * every call answers; the words used here are the words of its section "Terms".
 */
public final class SondeStations {
    public static final int NONE = -1;

    private static final int MOST_TEXT = 120;
    private static final int MOST_STATIONS = 5;
    private static final int MOST_FINDERS = 6;
    private static final int MOST_ORDERS = 8;
    private static final int MOST_DELAY = 30;
    private static final int MOST_GAPS = 12;
    private static final int MOST_REMEMBERED = 14;
    private static final int HOURS = 4;
    private static final int FARTHEST = 99;
    private static final int MOST_SIZE = 5;
    /** A sonde that waits made 0 to 4 flights: the fifth one scraps it, whatever setting 1 tells. */
    private static final int FLIGHT_COUNTS = 5;
    private static final int MOST_RUN = 40;
    private static final int MOST_AHEAD = 60;
    private static final int MOST_TURNS = 40;
    private static final int MOST_COMMANDS = 3;

    private static final int DELIVERY_TIME = 0;
    private static final int MOST_FLIGHTS = 1;
    private static final int GAS_PRICE = 2;
    private static final int SONDE_PRICE = 3;
    private static final int REWARD = 4;
    private static final int[] LOWEST_SETTINGS = {1, 1, 0, 0, 0};
    private static final int[] HIGHEST_SETTINGS = {30, 5, 99, 99, 99};

    private static final int NOTHING = 0;
    private static final int RELEASE = 1;
    private static final int GAP_BY_GAS = 2;
    private static final int GAP_BY_SONDES = 3;

    // what an action is refused for, if it is
    private static final int FINE = 0;
    private static final int NO_SUCH_ONE = 1;
    private static final int OUT_OF_RANGE = 2;
    private static final int NOT_NOW = 3;

    private final Text text = new Text();
    private final Net net = new Net();
    private final Net emptyNet = new Net();
    /** The copy on which is tried what would be; its content is of no use behind a call. */
    private final Net trial = new Net();
    private final Memory memory = new Memory();
    private final Slot slot0 = new Slot();
    private final Slot slot1 = new Slot();

    public SondeStations() {
    }

    // ---- text

    public int append(int c) throws IllegalArgumentException, IllegalStateException {
        if (!within(c, 0, 255)) {
            throw new IllegalArgumentException("a character code is 0 to 255");
        }
        if (text.length >= MOST_TEXT) {
            throw new IllegalStateException("the text is full");
        }
        text.add((char) c);
        return text.length;
    }

    public int clearText() {
        int previous = text.length;
        text.length = 0;
        return previous;
    }

    public int errorPosition() {
        return text.firstError();
    }

    public int load() throws IllegalStateException {
        if (text.firstError() != NONE) {
            throw new IllegalStateException("the text is not a net");
        }
        net.copyFrom(emptyNet);
        memory.forget();
        slot0.filled = false;
        slot1.filled = false;
        int leftOut = 0;
        text.startReading();
        for (int k = 0; k < MOST_TEXT && text.readCommand(); k++) {
            if (!doReadCommand()) {
                leftOut++;
            }
        }
        return leftOut;
    }

    /** Does the command of the text that was read last; returns if it can be done. */
    private boolean doReadCommand() {
        int[] values = text.values;
        switch (text.letter) {
            case 's':
                return net.tryStation(values[0], values[1], values[2], values[3], values[4]);
            case 'f':
                return net.tryFinder(values[0], values[1], values[2]);
            case 'w':
                return net.tryWind(values[0], values[1] * values[2]);
            case 'd':
                return net.tryOrder(values[0], values[1], values[2]);
            default:
                return net.tryWatches(values[0], MOST_RUN);
        }
    }

    // ---- what there is

    public int about(int what) throws IllegalArgumentException {
        switch (what) {
            case 0:
                return net.stations.count;
            case 1:
                return net.finders.count;
            case 2:
                return net.now;
            case 3:
                return net.paid;
            case 4:
                return net.releases;
            case 5:
                return net.gaps.count;
            case 6:
                return net.lost;
            case 7:
                return net.cameBack;
            case 8:
                return net.scrapped;
            case 9:
                return net.returns.count;
            case 10:
                return net.orders.count;
            case 11:
                return net.stations.sondesOfAll();
            default:
                throw new IllegalArgumentException("there are the numbers 0 to 11");
        }
    }

    public int station(int s, int what) throws IndexOutOfBoundsException, IllegalArgumentException {
        needStation(s);
        Stations all = net.stations;
        switch (what) {
            case 0:
                return all.place[s];
            case 1:
                return all.hours[s];
            case 2:
                return all.size[s];
            case 3:
                return all.gas[s];
            case 4:
                return all.sondesOf(s);
            case 5:
                return all.releases[s];
            case 6:
                return all.gaps[s];
            case 7:
                return whatWouldBeDone(s);
            default:
                throw new IllegalArgumentException("a station has the numbers 0 to 7");
        }
    }

    private int whatWouldBeDone(int s) {
        trial.copyFrom(net);
        trial.takeWhatArrives();
        return trial.planOf(s);
    }

    public int stock(int s, int flights) throws IndexOutOfBoundsException, IllegalArgumentException {
        needStation(s);
        need(within(flights, 0, FLIGHT_COUNTS - 1));
        return net.stations.sondesWith(s, flights);
    }

    public int finder(int f, int what) throws IndexOutOfBoundsException, IllegalArgumentException {
        Finders all = net.finders;
        if (!all.has(f)) {
            throw new IndexOutOfBoundsException("no such finder");
        }
        switch (what) {
            case 0:
                return all.place[f];
            case 1:
                return all.reach[f];
            case 2:
                return all.delay[f];
            case 3:
                return all.found[f];
            case 4:
                return net.stations.nearestTo(all.place[f]);
            default:
                throw new IllegalArgumentException("a finder has the numbers 0 to 4");
        }
    }

    public int back(int k, int what) throws IllegalArgumentException {
        need(k >= 0 && within(what, 0, 2));
        return net.returns.numberOf(k, what);
    }

    public int gap(int k, int what) throws IllegalArgumentException {
        need(k >= 0 && within(what, 0, 2));
        return net.gaps.numberOf(k, what);
    }

    public int windOf(int hour) throws IllegalArgumentException {
        need(within(hour, 0, HOURS - 1));
        return 100 + net.winds[hour];
    }

    public int setting(int what) throws IllegalArgumentException {
        need(within(what, 0, REWARD));
        return net.settings[what];
    }

    // ---- actions

    public int addStation(int place, int hours, int size, int gas, int sondes)
            throws IllegalArgumentException, IllegalStateException {
        beginAction(net.stationRefusal(place, hours, size, gas, sondes));
        net.tryStation(place, hours, size, gas, sondes);
        return net.stations.count - 1;
    }

    public int addFinder(int place, int reach, int delay) throws IllegalArgumentException, IllegalStateException {
        beginAction(net.finderRefusal(place, reach, delay));
        net.tryFinder(place, reach, delay);
        return net.finders.count - 1;
    }

    public int wind(int hour, int v) throws IllegalArgumentException {
        beginAction(net.windRefusal(hour, v));
        int previous = net.winds[hour];
        net.tryWind(hour, v);
        return 100 + previous;
    }

    public int change(int s, int hours, int size) throws IndexOutOfBoundsException, IllegalArgumentException {
        beginAction(net.changeRefusal(s, hours, size));
        int previous = net.stations.hours[s];
        net.tryChange(s, hours, size);
        return previous;
    }

    public int deliver(int s, int gas, int sondes)
            throws IndexOutOfBoundsException, IllegalArgumentException, IllegalStateException {
        beginAction(net.orderRefusal(s, gas, sondes));
        net.tryOrder(s, gas, sondes);
        return net.priceOf(gas, sondes);
    }

    public int move(int s, int to) throws IndexOutOfBoundsException, IllegalStateException {
        beginAction(net.transferRefusal(s, to));
        int flights = net.stations.mostFlownOf(s);
        net.tryTransfer(s, to);
        return flights;
    }

    public int run(int n) throws IllegalArgumentException {
        beginAction(within(n, 1, MOST_RUN) ? FINE : OUT_OF_RANGE);
        int before = net.releases;
        net.tryWatches(n, MOST_RUN);
        return net.releases - before;
    }

    public int set(int what, int v) throws IllegalArgumentException {
        beginAction(net.settingRefusal(what, v));
        int previous = net.settings[what];
        net.trySetting(what, v);
        return previous;
    }

    public int undo() throws IllegalStateException {
        if (memory.count == 0) {
            throw new IllegalStateException("no state is remembered");
        }
        memory.takeBack(net);
        return memory.count;
    }

    /** Throws what the refusal stands for; otherwise remembers the state, as is done before each action. */
    private void beginAction(int refusal) {
        throwFor(refusal);
        memory.remember(net);
    }

    // ---- what would be

    public int landing(int s, int hour) throws IndexOutOfBoundsException, IllegalArgumentException {
        needStation(s);
        need(within(hour, 0, HOURS - 1));
        return net.landingPlace(s, hour);
    }

    public int finds(int place) throws IllegalArgumentException {
        need(within(place, 0, FARTHEST));
        return net.finders.whoFindsAt(place);
    }

    public int coming(int n, int what) throws IllegalArgumentException {
        need(within(n, 1, MOST_AHEAD) && within(what, 0, 3));
        trial.copyFrom(net);
        trial.tryWatches(n, MOST_AHEAD);
        switch (what) {
            case 0:
                return trial.releases - net.releases;
            case 1:
                return trial.gaps.count - net.gaps.count;
            case 2:
                return trial.paid - net.paid;
            default:
                return trial.stations.sondesOfAll();
        }
    }

    public int firstGap() {
        trial.copyFrom(net);
        for (int k = 0; k < MOST_AHEAD; k++) {
            trial.tryWatches(1, 1);
            if (trial.gaps.count > net.gaps.count) {
                return net.now + k;
            }
        }
        return NONE;
    }

    public int lacks(int s, int n) throws IndexOutOfBoundsException, IllegalArgumentException {
        needStation(s);
        need(within(n, 1, MOST_AHEAD));
        // With so much more gas, s never lacks any; how far it eats into it is what is lacking.
        int plenty = MOST_AHEAD * MOST_SIZE;
        int lacking = 0;
        trial.copyFrom(net);
        trial.stations.receive(s, plenty, 0);
        for (int k = 0; k < n; k++) {
            trial.takeWhatArrives();
            if (trial.planOf(s) != NOTHING) {
                int own = trial.stations.gas[s] - plenty;
                lacking = Math.max(lacking, trial.stations.size[s] - own);
            }
            trial.releaseAndEndWatch();
        }
        return lacking;
    }

    public int ifDelivered(int s, int gas, int sondes, int n)
            throws IndexOutOfBoundsException, IllegalArgumentException, IllegalStateException {
        int refusal = net.orderRefusal(s, gas, sondes);
        if (refusal != NO_SUCH_ONE && !within(n, 1, MOST_AHEAD)) {
            refusal = OUT_OF_RANGE;
        }
        throwFor(refusal);
        trial.copyFrom(net);
        trial.tryOrder(s, gas, sondes);
        trial.tryWatches(n, MOST_AHEAD);
        return trial.gaps.count - net.gaps.count;
    }

    // ---- scripts, simulations

    public int runScript(int n, long script) throws IllegalArgumentException {
        need(within(n, 1, MOST_COMMANDS));
        need(script >= 0 && script <= longestScript(n));
        trial.copyFrom(net);
        for (int k = 0; k < n; k++) {
            if (!doScriptCommand(scriptGroup(script, n - 1 - k))) {
                return k;
            }
        }
        return NONE;
    }

    /** Returns the highest number that has five digits for each of n commands. */
    private static long longestScript(int n) {
        switch (n) {
            case 1:
                return 99999L;
            case 2:
                return 9999999999L;
            default:
                return 999999999999999L;
        }
    }

    /** Returns a group of five digits; behind it stand so many other groups. */
    private static int scriptGroup(long script, int behind) {
        switch (behind) {
            case 0:
                return (int) (script % 100000L);
            case 1:
                return (int) (script / 100000L % 100000L);
            default:
                return (int) (script / 10000000000L % 100000L);
        }
    }

    /** Does a command on the trial net; returns if it succeeds. */
    private boolean doScriptCommand(int group) {
        int second = group / 1000 % 10;
        int middle = group / 10 % 100;
        int last = group % 10;
        switch (group / 10000) {
            case 1:
                return trial.tryOrder(second, middle, last);
            case 2:
                return middle % 10 == 0 && last == 0 && trial.tryTransfer(second, middle / 10);
            case 3:
                return trial.tryChange(second, middle, last);
            case 4:
                return last == 0 && trial.tryWind(second, middle - 20);
            case 5:
                return last == 0 && trial.trySetting(second, middle);
            case 6:
                return group / 100 % 100 == 0 && trial.tryWatches(group % 100, MOST_RUN);
            case 7:
                return last == 0 && trial.stations.has(second) && trial.stations.gas[second] >= middle;
            case 8:
                return last == 0 && trial.stations.has(second) && trial.stations.sondesOf(second) >= middle;
            case 9:
                return second == 0 && last == 0 && trial.gaps.count <= middle;
            default:
                return false;
        }
    }

    public int simulate(long seed, int m) throws IllegalArgumentException {
        need(within(m, 1, MOST_TURNS));
        trial.copyFrom(net);
        long x = seed;
        for (int k = 0; k < m; k++) {
            x = x * 6364136223846793005L + 1442695040888963407L;
            doTurn((int) (x >>> 33));
        }
        return 1000 * (trial.releases - net.releases) + trial.gaps.count - net.gaps.count;
    }

    /** Does a turn of a simulation on the trial net; r is not negative. */
    private void doTurn(int r) {
        int s = r / 8 % 5;
        switch (r % 8) {
            case 0:
                trial.tryOrder(s, r / 64 % 40, r / 4096 % 5);
                break;
            case 1:
                trial.tryTransfer(s, r / 64 % 5);
                break;
            case 2:
                trial.tryWind(r / 8 % 4, r / 64 % 41 - 20);
                break;
            case 3:
                trial.tryChange(s, r / 64 % 16, 1 + r / 1024 % 5);
                break;
            default:
                trial.tryWatches(1 + r / 8 % 4, MOST_RUN);
                break;
        }
    }

    // ---- save slots

    public int save(int slot) throws IndexOutOfBoundsException {
        Slot kept = slotOf(slot);
        kept.net.copyFrom(net);
        kept.filled = true;
        return net.now;
    }

    public int restore(int slot) throws IndexOutOfBoundsException, IllegalStateException {
        Slot kept = slotOf(slot);
        if (!kept.filled) {
            throw new IllegalStateException("nothing has been saved in the slot");
        }
        net.copyFrom(kept.net);
        memory.forget();
        return net.now;
    }

    private Slot slotOf(int slot) {
        if (!within(slot, 0, 1)) {
            throw new IndexOutOfBoundsException("no such save slot");
        }
        return slot == 0 ? slot0 : slot1;
    }

    // ---- refusals

    private void needStation(int s) {
        if (!net.stations.has(s)) {
            throw new IndexOutOfBoundsException("no such station");
        }
    }

    private static void need(boolean inRange) {
        if (!inRange) {
            throw new IllegalArgumentException("an argument is out of its range");
        }
    }

    private static void throwFor(int refusal) {
        switch (refusal) {
            case NO_SUCH_ONE:
                throw new IndexOutOfBoundsException("no such station");
            case OUT_OF_RANGE:
                throw new IllegalArgumentException("an argument is out of its range");
            case NOT_NOW:
                throw new IllegalStateException("the net does not allow it now");
            default:
                break;
        }
    }

    private static boolean within(int v, int low, int high) {
        return v >= low && v <= high;
    }

    private static void copyRow(int[] from, int[] to) {
        System.arraycopy(from, 0, to, 0, Math.min(from.length, to.length));
    }

    /** The text buffer, and the reading of its commands from left to right. */
    private static final class Text {
        private final char[] signs = new char[MOST_TEXT];
        int length;
        /** The sign that is read next; when reading has failed, the one that is not allowed. */
        int at;
        char letter;
        /** The numbers of the command, in their order; a sign stands among them as 1 or -1. */
        final int[] values = new int[5];

        void add(char sign) {
            if (length < signs.length) {
                signs[length] = sign;
                length++;
            }
        }

        int firstError() {
            boolean good = startReading();
            for (int k = 0; k < MOST_TEXT && good && at < length; k++) {
                good = readCommand();
            }
            return good ? NONE : at;
        }

        boolean startReading() {
            at = 0;
            return skip('N');
        }

        /** Reads a command into letter and values; returns if there is one. */
        boolean readCommand() {
            if (at >= length) {
                return false;
            }
            letter = signs[at];
            switch (letter) {
                case 's':
                    return skip(letter) && readNumber(0, 2, 0, FARTHEST) && readNumber(1, 2, 0, 15)
                            && readNumber(2, 1, 1, MOST_SIZE) && readNumber(3, 2, 0, 99) && readNumber(4, 1, 0, 9);
                case 'f':
                    return skip(letter) && readNumber(0, 2, 0, FARTHEST) && readNumber(1, 2, 0, 20)
                            && readNumber(2, 2, 1, MOST_DELAY);
                case 'w':
                    return skip(letter) && readNumber(0, 1, 0, HOURS - 1) && readPlusOrMinus(1)
                            && readNumber(2, 2, 0, 20);
                case 'd':
                    return skip(letter) && readNumber(0, 1, 0, MOST_STATIONS - 1) && readNumber(1, 2, 0, 99)
                            && readNumber(2, 1, 0, 9);
                case 'r':
                    return skip(letter) && readNumber(0, 1, 1, 9);
                default:
                    return false;
            }
        }

        private boolean skip(char sign) {
            if (at >= length || signs[at] != sign) {
                return false;
            }
            at++;
            return true;
        }

        private boolean readPlusOrMinus(int index) {
            values[index] = at < length && signs[at] == '-' ? -1 : 1;
            return skip(values[index] < 0 ? '-' : '+');
        }

        /** Reads a number of one or two digits; each digit has to begin, with those before it, an allowed number. */
        private boolean readNumber(int index, int digits, int low, int high) {
            int value = 0;
            for (int k = 0; k < digits; k++) {
                if (at >= length || signs[at] < '0' || signs[at] > '9') {
                    return false;
                }
                value = value * 10 + signs[at] - '0';
                boolean more = k + 1 < digits;
                int lowest = more ? value * 10 : value;
                int highest = more ? lowest + 9 : value;
                if (highest < low || lowest > high) {
                    return false;
                }
                at++;
            }
            values[index] = value;
            return true;
        }
    }

    /** The state: all that undo, save and restore bring back. */
    private static final class Net {
        final Stations stations = new Stations();
        final Finders finders = new Finders();
        final Orders orders = new Orders();
        final Returns returns = new Returns();
        final Gaps gaps = new Gaps();
        final int[] winds = new int[HOURS];
        final int[] settings = {4, 3, 2, 20, 5};
        int now;
        int paid;
        int releases;
        int lost;
        int cameBack;
        int scrapped;

        void copyFrom(Net other) {
            stations.copyFrom(other.stations);
            finders.copyFrom(other.finders);
            orders.copyFrom(other.orders);
            returns.copyFrom(other.returns);
            gaps.copyFrom(other.gaps);
            copyRow(other.winds, winds);
            copyRow(other.settings, settings);
            now = other.now;
            paid = other.paid;
            releases = other.releases;
            lost = other.lost;
            cameBack = other.cameBack;
            scrapped = other.scrapped;
        }

        // Each action has a refusal, which tells why it cannot be done, and a try, which does it if it can be done.

        int stationRefusal(int place, int hours, int size, int gas, int sondes) {
            if (!within(place, 0, FARTHEST) || !within(hours, 0, 15) || !within(size, 1, MOST_SIZE)
                    || !within(gas, 0, 999) || !within(sondes, 0, 99)) {
                return OUT_OF_RANGE;
            }
            return stations.count < MOST_STATIONS ? FINE : NOT_NOW;
        }

        boolean tryStation(int place, int hours, int size, int gas, int sondes) {
            if (stationRefusal(place, hours, size, gas, sondes) != FINE) {
                return false;
            }
            stations.add(place, hours, size);
            stations.receive(stations.count - 1, gas, sondes);
            return true;
        }

        int finderRefusal(int place, int reach, int delay) {
            if (!within(place, 0, FARTHEST) || !within(reach, 0, 20) || !within(delay, 1, MOST_DELAY)) {
                return OUT_OF_RANGE;
            }
            return finders.count < MOST_FINDERS ? FINE : NOT_NOW;
        }

        boolean tryFinder(int place, int reach, int delay) {
            if (finderRefusal(place, reach, delay) != FINE) {
                return false;
            }
            finders.add(place, reach, delay);
            return true;
        }

        int windRefusal(int hour, int v) {
            return within(hour, 0, HOURS - 1) && within(v, -20, 20) ? FINE : OUT_OF_RANGE;
        }

        boolean tryWind(int hour, int v) {
            if (windRefusal(hour, v) != FINE) {
                return false;
            }
            winds[hour] = v;
            return true;
        }

        int changeRefusal(int s, int hours, int size) {
            if (!stations.has(s)) {
                return NO_SUCH_ONE;
            }
            return within(hours, 0, 15) && within(size, 1, MOST_SIZE) ? FINE : OUT_OF_RANGE;
        }

        boolean tryChange(int s, int hours, int size) {
            if (changeRefusal(s, hours, size) != FINE) {
                return false;
            }
            stations.hours[s] = hours;
            stations.size[s] = size;
            return true;
        }

        int orderRefusal(int s, int gas, int sondes) {
            if (!stations.has(s)) {
                return NO_SUCH_ONE;
            }
            if (!within(gas, 0, 999) || !within(sondes, 0, 99)) {
                return OUT_OF_RANGE;
            }
            boolean empty = gas == 0 && sondes == 0;
            return empty || orders.count >= MOST_ORDERS ? NOT_NOW : FINE;
        }

        boolean tryOrder(int s, int gas, int sondes) {
            if (orderRefusal(s, gas, sondes) != FINE) {
                return false;
            }
            orders.add(now + settings[DELIVERY_TIME], s, gas, sondes);
            paid += priceOf(gas, sondes);
            return true;
        }

        int priceOf(int gas, int sondes) {
            return gas * settings[GAS_PRICE] + sondes * settings[SONDE_PRICE];
        }

        int transferRefusal(int s, int to) {
            if (!stations.has(s) || !stations.has(to)) {
                return NO_SUCH_ONE;
            }
            return s == to || stations.mostFlownOf(s) == NONE ? NOT_NOW : FINE;
        }

        boolean tryTransfer(int s, int to) {
            if (transferRefusal(s, to) != FINE) {
                return false;
            }
            int flights = stations.mostFlownOf(s);
            stations.addSondes(s, flights, -1);
            stations.addSondes(to, flights, 1);
            return true;
        }

        int settingRefusal(int what, int v) {
            boolean good = within(what, 0, REWARD) && within(v, LOWEST_SETTINGS[what], HIGHEST_SETTINGS[what]);
            return good ? FINE : OUT_OF_RANGE;
        }

        boolean trySetting(int what, int v) {
            if (settingRefusal(what, v) != FINE) {
                return false;
            }
            settings[what] = v;
            return true;
        }

        /** Lets n watches go by, if n is 1 to most; returns if it is. */
        boolean tryWatches(int n, int most) {
            if (!within(n, 1, most)) {
                return false;
            }
            for (int k = 0; k < n; k++) {
                takeWhatArrives();
                releaseAndEndWatch();
            }
            return true;
        }

        /** The first part of the watch of now. */
        void takeWhatArrives() {
            orders.bringDue(now, stations);
            int came = returns.bringDue(now, stations);
            cameBack += came;
            paid += came * settings[REWARD];
        }

        /** The second part of the watch of now; behind it, the next one begins. */
        void releaseAndEndWatch() {
            for (int s = 0; s < stations.count; s++) {
                int plan = planOf(s);
                if (plan == RELEASE) {
                    release(s);
                } else if (plan != NOTHING) {
                    gaps.add(now, s, plan == GAP_BY_GAS ? 1 : 2);
                    stations.gaps[s]++;
                }
            }
            now++;
        }

        /** Returns what a station does in the watch of now, with the gas and the sondes that it has. */
        int planOf(int s) {
            if (!stations.has(s) || (stations.hours[s] >> hourOfNow() & 1) == 0) {
                return NOTHING;
            }
            if (stations.gas[s] < stations.size[s]) {
                return GAP_BY_GAS;
            }
            return stations.mostFlownOf(s) == NONE ? GAP_BY_SONDES : RELEASE;
        }

        private void release(int s) {
            int before = stations.mostFlownOf(s);
            stations.addSondes(s, before, -1);
            stations.gas[s] -= stations.size[s];
            stations.releases[s]++;
            releases++;
            int flights = before + 1;
            int place = landingPlace(s, hourOfNow());
            int f = place == NONE ? NONE : finders.whoFindsAt(place);
            if (f == NONE) {
                lost++;
                return;
            }
            finders.found[f]++;
            if (flights >= settings[MOST_FLIGHTS]) {
                scrapped++;
            } else {
                returns.add(now + finders.delay[f], stations.nearestTo(finders.place[f]), flights);
            }
        }

        private int hourOfNow() {
            return Math.floorMod(now, HOURS);
        }

        int landingPlace(int s, int hour) {
            if (!stations.has(s) || !within(hour, 0, HOURS - 1)) {
                return NONE;
            }
            int place = stations.place[s] + winds[hour] * stations.size[s];
            return within(place, 0, FARTHEST) ? place : NONE;
        }
    }

    /** The stations; row by row, what each of them is and has. */
    private static final class Stations {
        int count;
        final int[] place = new int[MOST_STATIONS];
        final int[] hours = new int[MOST_STATIONS];
        final int[] size = new int[MOST_STATIONS];
        final int[] gas = new int[MOST_STATIONS];
        final int[] releases = new int[MOST_STATIONS];
        final int[] gaps = new int[MOST_STATIONS];
        /** How many sondes of a station made so many flights, at the index station * FLIGHT_COUNTS + flights. */
        private final int[] sondes = new int[MOST_STATIONS * FLIGHT_COUNTS];

        void copyFrom(Stations other) {
            count = other.count;
            copyRow(other.place, place);
            copyRow(other.hours, hours);
            copyRow(other.size, size);
            copyRow(other.gas, gas);
            copyRow(other.releases, releases);
            copyRow(other.gaps, gaps);
            copyRow(other.sondes, sondes);
        }

        boolean has(int s) {
            return s >= 0 && s < count;
        }

        /** Adds a station that has nothing yet: behind the last one all rows are still 0. */
        void add(int newPlace, int newHours, int newSize) {
            if (count < MOST_STATIONS) {
                place[count] = newPlace;
                hours[count] = newHours;
                size[count] = newSize;
                count++;
            }
        }

        /** Adds gas, and sondes that made no flight. */
        void receive(int s, int moreGas, int moreSondes) {
            if (has(s)) {
                gas[s] += moreGas;
                sondes[s * FLIGHT_COUNTS] += moreSondes;
            }
        }

        void addSondes(int s, int flights, int more) {
            if (has(s) && within(flights, 0, FLIGHT_COUNTS - 1)) {
                sondes[s * FLIGHT_COUNTS + flights] += more;
            }
        }

        int sondesWith(int s, int flights) {
            boolean known = has(s) && within(flights, 0, FLIGHT_COUNTS - 1);
            return known ? sondes[s * FLIGHT_COUNTS + flights] : 0;
        }

        int sondesOf(int s) {
            int sum = 0;
            for (int flights = 0; flights < FLIGHT_COUNTS && has(s); flights++) {
                sum += sondes[s * FLIGHT_COUNTS + flights];
            }
            return sum;
        }

        int sondesOfAll() {
            int sum = 0;
            for (int s = 0; s < count; s++) {
                sum += sondesOf(s);
            }
            return sum;
        }

        /** Returns the flights of the sonde that made most of them; NONE if the stock is empty. */
        int mostFlownOf(int s) {
            for (int flights = FLIGHT_COUNTS - 1; flights >= 0 && has(s); flights--) {
                if (sondes[s * FLIGHT_COUNTS + flights] > 0) {
                    return flights;
                }
            }
            return NONE;
        }

        int nearestTo(int from) {
            int nearest = NONE;
            int least = FARTHEST + 1;
            for (int s = 0; s < count; s++) {
                int distance = Math.abs(place[s] - from);
                if (distance < least) {
                    nearest = s;
                    least = distance;
                }
            }
            return nearest;
        }
    }

    /** The finders; row by row, what each of them is and found. */
    private static final class Finders {
        int count;
        final int[] place = new int[MOST_FINDERS];
        final int[] reach = new int[MOST_FINDERS];
        final int[] delay = new int[MOST_FINDERS];
        final int[] found = new int[MOST_FINDERS];

        void copyFrom(Finders other) {
            count = other.count;
            copyRow(other.place, place);
            copyRow(other.reach, reach);
            copyRow(other.delay, delay);
            copyRow(other.found, found);
        }

        boolean has(int f) {
            return f >= 0 && f < count;
        }

        /** Adds a finder that found nothing yet: behind the last one all rows are still 0. */
        void add(int newPlace, int newReach, int newDelay) {
            if (count < MOST_FINDERS) {
                place[count] = newPlace;
                reach[count] = newReach;
                delay[count] = newDelay;
                count++;
            }
        }

        int whoFindsAt(int landed) {
            int finder = NONE;
            int least = FARTHEST + 1;
            for (int f = 0; f < count; f++) {
                int distance = Math.abs(place[f] - landed);
                if (distance <= reach[f] && distance < least) {
                    finder = f;
                    least = distance;
                }
            }
            return finder;
        }
    }

    /** The deliveries on the way. */
    private static final class Orders {
        int count;
        private final int[] arrival = new int[MOST_ORDERS];
        private final int[] station = new int[MOST_ORDERS];
        private final int[] gas = new int[MOST_ORDERS];
        private final int[] sondes = new int[MOST_ORDERS];

        void copyFrom(Orders other) {
            count = other.count;
            copyRow(other.arrival, arrival);
            copyRow(other.station, station);
            copyRow(other.gas, gas);
            copyRow(other.sondes, sondes);
        }

        void add(int watch, int s, int moreGas, int moreSondes) {
            if (count < MOST_ORDERS) {
                put(count, watch, s, moreGas, moreSondes);
                count++;
            }
        }

        void bringDue(int now, Stations stations) {
            int kept = 0;
            for (int k = 0; k < count; k++) {
                if (arrival[k] == now) {
                    stations.receive(station[k], gas[k], sondes[k]);
                } else {
                    put(kept, arrival[k], station[k], gas[k], sondes[k]);
                    kept++;
                }
            }
            count = kept;
        }

        private void put(int k, int watch, int s, int itsGas, int itsSondes) {
            arrival[k] = watch;
            station[k] = s;
            gas[k] = itsGas;
            sondes[k] = itsSondes;
        }
    }

    /** The sondes on the way back: those that arrive first stand first, and of these the ones released first. */
    private static final class Returns {
        /** All there can be: in each watch at most one of each station, and all are back behind the longest delay. */
        private static final int MOST = MOST_STATIONS * MOST_DELAY;

        int count;
        private final int[] arrival = new int[MOST];
        private final int[] station = new int[MOST];
        private final int[] flights = new int[MOST];

        void copyFrom(Returns other) {
            count = other.count;
            copyRow(other.arrival, arrival);
            copyRow(other.station, station);
            copyRow(other.flights, flights);
        }

        void add(int watch, int s, int itsFlights) {
            if (count >= MOST) {
                return;
            }
            int k = count;
            while (k > 0 && arrival[k - 1] > watch) {
                put(k, arrival[k - 1], station[k - 1], flights[k - 1]);
                k--;
            }
            put(k, watch, s, itsFlights);
            count++;
        }

        /** Brings those that are due to their stations; returns how many these are. */
        int bringDue(int now, Stations stations) {
            int due = 0;
            while (due < count && arrival[due] == now) {
                stations.addSondes(station[due], flights[due], 1);
                due++;
            }
            if (due > 0) {
                for (int k = due; k < count; k++) {
                    put(k - due, arrival[k], station[k], flights[k]);
                }
                count -= due;
            }
            return due;
        }

        int numberOf(int k, int what) {
            if (!within(k, 0, count - 1)) {
                return NONE;
            }
            switch (what) {
                case 0:
                    return arrival[k];
                case 1:
                    return station[k];
                default:
                    return flights[k];
            }
        }

        private void put(int k, int watch, int s, int itsFlights) {
            arrival[k] = watch;
            station[k] = s;
            flights[k] = itsFlights;
        }
    }

    /** The gaps: how many there were, and the latest of them in a ring. */
    private static final class Gaps {
        int count;
        /** Where the next gap goes, over the oldest one once all places are taken; behind the last one, the first. */
        private int next;
        private final int[] watch = new int[MOST_GAPS];
        private final int[] station = new int[MOST_GAPS];
        private final int[] reason = new int[MOST_GAPS];

        void copyFrom(Gaps other) {
            count = other.count;
            next = other.next;
            copyRow(other.watch, watch);
            copyRow(other.station, station);
            copyRow(other.reason, reason);
        }

        void add(int itsWatch, int s, int itsReason) {
            int at = next < MOST_GAPS ? next : 0;
            watch[at] = itsWatch;
            station[at] = s;
            reason[at] = itsReason;
            next = at + 1;
            count++;
        }

        /** Returns a number of the gap before which the latest k gaps stand. */
        int numberOf(int k, int what) {
            if (!within(k, 0, MOST_GAPS - 1) || k >= count) {
                return NONE;
            }
            int at = Math.floorMod(next - 1 - k, MOST_GAPS);
            switch (what) {
                case 0:
                    return watch[at];
                case 1:
                    return station[at];
                default:
                    return reason[at];
            }
        }
    }

    /** The states before the latest actions, in a ring. */
    private static final class Memory {
        int count;
        private int first;
        private final Net[] nets = new Net[MOST_REMEMBERED];

        Memory() {
            for (int k = 0; k < MOST_REMEMBERED; k++) {
                nets[k] = new Net();
            }
        }

        void forget() {
            count = 0;
            first = 0;
        }

        void remember(Net net) {
            Net place = nets[(first + count) % MOST_REMEMBERED];
            if (place != null) {
                place.copyFrom(net);
            }
            if (count < MOST_REMEMBERED) {
                count++;
            } else {
                first = (first + 1) % MOST_REMEMBERED;
            }
        }

        /** Makes the net what it was at the last time, which is forgotten then. */
        void takeBack(Net net) {
            if (count > 0) {
                count--;
                Net last = nets[(first + count) % MOST_REMEMBERED];
                if (last != null) {
                    net.copyFrom(last);
                }
            }
        }
    }

    private static final class Slot {
        final Net net = new Net();
        boolean filled;
    }
}

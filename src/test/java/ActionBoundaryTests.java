import java.util.function.Consumer;

/** The boundary cases that the promises 14 to 19, 21 and 22 name: the actions, but for run, and undo. */
public final class ActionBoundaryTests {
    private static final Refused NEW = new Refused(SondeStations::new);
    private static final Refused ROOMY = new Refused(Nets::roomy);
    private static final Refused FULL = new Refused(Nets::full);
    private static final String FIRST_NAMED =
            "If several exceptions apply to a call, the one that its description names first is thrown.";

    private ActionBoundaryTests() {
    }

    public static void main(String[] args) {
        addStations();
        addFinders();
        winds();
        changes();
        deliveries();
        moves();
        settings();
        undoing();
        Check.end("ActionBoundaryTests");
    }

    private static void addStations() {
        int[] good = {50, 15, 1, 9, 9};
        Refused.CallWith add = (x, a) -> x.addStation(a[0], a[1], a[2], a[3], a[4]);
        Check.sentence(14, "`place`: 0 to 99", () -> ROOMY.range("place", good, 0, 0, 99, add));
        Check.sentence(14, "`hours`: 0 to 15, bit h set for the hour h",
                () -> ROOMY.range("hours", good, 1, 0, 15, add));
        Check.sentence(14, "`size`: 1 to 5", () -> ROOMY.range("size", good, 2, 1, 5, add));
        Check.sentence(14, "`gas`: 0 to 999", () -> ROOMY.range("gas", good, 3, 0, 999, add));
        Check.sentence(14, "`sondes`: 0 to 99", () -> ROOMY.range("sondes", good, 4, 0, 99, add));
        Check.sentence(14, "Adds a station; its sondes made no flight.", ActionBoundaryTests::stationAtTheEdges);
        Check.sentence(14, "Returns its number.", ActionBoundaryTests::numbersOfStations);
        Check.sentence(14, "There are at most 5 stations, numbered from 0.", ActionBoundaryTests::stationsOfALateNet);
        Check.sentence(14, "Throws `IllegalArgumentException` if an argument is out of range",
                ActionBoundaryTests::oneArgumentOutOfRange);
        Check.sentence(14, "Throws `IllegalStateException` if there are 5", ActionBoundaryTests::sixthStation);
        Check.sentence(14, FIRST_NAMED, () -> {
            FULL.argument("place", x -> x.addStation(-1, 0, 1, 0, 0));
            FULL.argument("hours", x -> x.addStation(0, 16, 1, 0, 0));
            FULL.argument("size", x -> x.addStation(0, 0, 0, 0, 0));
            FULL.argument("gas", x -> x.addStation(0, 0, 1, 1000, 0));
            FULL.argument("sondes", x -> x.addStation(0, 0, 1, 0, 100));
        });
    }

    private static void addFinders() {
        int[] good = {50, 10, 3};
        Refused.CallWith add = (x, a) -> x.addFinder(a[0], a[1], a[2]);
        Check.sentence(15, "`place`: 0 to 99", () -> ROOMY.range("place", good, 0, 0, 99, add));
        Check.sentence(15, "`reach`: 0 to 20", () -> ROOMY.range("reach", good, 1, 0, 20, add));
        Check.sentence(15, "`delay`: 1 to 30", () -> ROOMY.range("delay", good, 2, 1, 30, add));
        Check.sentence(15, "Returns the number of the finder.", ActionBoundaryTests::numbersOfFinders);
        Check.sentence(15, "There are at most 6 finders, numbered from 0.", ActionBoundaryTests::findersOfALateNet);
        Check.sentence(15, "Throws `IllegalArgumentException` if an argument is out of range", () -> {
            NEW.argument("place", x -> x.addFinder(100, 0, 1));
            NEW.argument("reach", x -> x.addFinder(0, 21, 1));
            NEW.argument("delay", x -> x.addFinder(0, 0, 0));
            NEW.argument("all", x -> x.addFinder(-1, -1, -1));
        });
        Check.sentence(15, "Throws `IllegalStateException` if there are 6", ActionBoundaryTests::seventhFinder);
        Check.sentence(15, FIRST_NAMED, () -> {
            FULL.argument("place", x -> x.addFinder(-1, 0, 1));
            FULL.argument("reach", x -> x.addFinder(0, 21, 1));
            FULL.argument("delay", x -> x.addFinder(0, 0, 31));
        });
    }

    private static void winds() {
        int[] good = {2, 7};
        Refused.CallWith wind = (x, a) -> x.wind(a[0], a[1]);
        Check.sentence(16, "`hour`: 0 to 3", () -> ROOMY.range("hour", good, 0, 0, 3, wind));
        Check.sentence(16, "`v`: -20 to 20", () -> ROOMY.range("v", good, 1, -20, 20, wind));
        Check.sentence(16, "Returns the previous one, with 100 added to it.",
                ActionBoundaryTests::everyWindBehindEvery);
        Check.sentence(16, "Throws `IllegalArgumentException` if hour or v is out of range", () -> {
            FULL.argument("hour -1", x -> x.wind(-1, 0));
            FULL.argument("hour 4", x -> x.wind(4, 20));
            FULL.argument("v -21", x -> x.wind(0, -21));
            FULL.argument("v 21", x -> x.wind(3, 21));
            FULL.argument("v with 100 added", x -> x.wind(3, 100));
            FULL.argument("both", x -> x.wind(4, 21));
        });
    }

    private static void changes() {
        Refused.CallWith change = (x, a) -> x.change(a[0], a[1], a[2]);
        Check.sentence(17, "`hours`: 0 to 15", () -> ROOMY.range("hours", new int[] {1, 3, 2}, 1, 0, 15, change));
        Check.sentence(17, "`size`: 1 to 5", () -> ROOMY.range("size", new int[] {1, 3, 2}, 2, 1, 5, change));
        Check.sentence(17, "Returns the previous hours.", ActionBoundaryTests::everyChangeOfHours);
        Check.sentence(17, "Throws `IndexOutOfBoundsException` if there is no such station", () -> {
            NEW.stations("change", 0, change, 15, 1);
            ROOMY.stations("change", 2, change, 15, 1);
            FULL.stations("change", 5, change, 15, 1);
            Check.is("change of the last one", 0, () -> Nets.full().change(4, 15, 1));
        });
        Check.sentence(17, "Throws `IllegalArgumentException` if hours or size is out of range", () -> {
            FULL.argument("hours -1", x -> x.change(4, -1, 1));
            FULL.argument("hours 16", x -> x.change(4, 16, 1));
            FULL.argument("size 0", x -> x.change(0, 0, 0));
            FULL.argument("size 6", x -> x.change(0, 0, 6));
        });
        Check.sentence(17, FIRST_NAMED, () -> {
            NEW.stations("hours 16", 0, change, 16, 1);
            FULL.stations("size 0", 5, change, 0, 0);
            ROOMY.stations("both", 2, change, -1, 6);
        });
    }

    private static void deliveries() {
        int[] good = {1, 5, 5};
        Refused.CallWith deliver = (x, a) -> x.deliver(a[0], a[1], a[2]);
        Check.sentence(18, "`gas`: 0 to 999", () -> ROOMY.range("gas", good, 1, 0, 999, deliver));
        Check.sentence(18, "`sondes`: 0 to 99", () -> ROOMY.range("sondes", good, 2, 0, 99, deliver));
        Check.sentence(18, "arrives in the watch of now plus setting 0", ActionBoundaryTests::arrivesInItsWatch);
        Check.sentence(18, "deliveries add their gas and their sondes (which made no flight) to their stations",
                ActionBoundaryTests::eightOfThem);
        Check.sentence(18, "and is paid now.", ActionBoundaryTests::paidWhenItIsOrdered);
        Check.sentence(18, "Returns its price.", ActionBoundaryTests::lowestAndHighestPrice);
        Check.sentence(18, "Throws `IndexOutOfBoundsException` if there is no such station", () -> {
            NEW.stations("deliver", 0, deliver, 1, 1);
            ROOMY.stations("deliver", 2, deliver, 1, 1);
            Check.is("deliver to the last one", 2, () -> Nets.one(0, 0).deliver(0, 1, 0));
        });
        Check.sentence(18, "Throws `IllegalArgumentException` if gas or sondes is out of range", () -> {
            ROOMY.argument("gas -1", x -> x.deliver(0, -1, 0));
            ROOMY.argument("gas -1, some sondes", x -> x.deliver(0, -1, 1));
            ROOMY.argument("gas 1000", x -> x.deliver(0, 1000, 0));
            ROOMY.argument("sondes -1", x -> x.deliver(0, 0, -1));
            ROOMY.argument("sondes -1, some gas", x -> x.deliver(0, 1, -1));
            ROOMY.argument("sondes 100", x -> x.deliver(0, 0, 100));
        });
        Check.sentence(18, "Throws `IllegalStateException` if both are 0, or 8 deliveries are on the way",
                ActionBoundaryTests::nothingOrNinth);
        Check.sentence(18, FIRST_NAMED, () -> {
            FULL.stations("all three", 5, deliver, 1000, 0);
            FULL.stations("nothing, and a ninth", 5, deliver, 0, 0);
            FULL.argument("gas, and a ninth", x -> x.deliver(0, 1000, 0));
            FULL.argument("sondes, and a ninth", x -> x.deliver(0, 0, -1));
        });
    }

    private static void moves() {
        Refused.CallWith move = (x, a) -> x.move(a[0], a[1]);
        Check.sentence(19, "Moves the sonde that made most flights from a station to another one, at once.",
                ActionBoundaryTests::mostFlownFirst);
        Check.sentence(19, "Throws `IndexOutOfBoundsException` if there is no such station", () -> {
            NEW.stations("move from", 0, move, 0);
            ROOMY.stations("move from", 2, move, 0);
            FULL.stations("move from", 5, move, 0);
            ROOMY.stations("move to", 2, (x, a) -> x.move(1, a[0]));
            FULL.stations("move to", 5, (x, a) -> x.move(3, a[0]));
        });
        Check.sentence(19, "Throws `IllegalStateException` if both are the same, or the stock of s is empty",
                ActionBoundaryTests::sameOrEmpty);
        Check.sentence(19, FIRST_NAMED, () -> {
            NEW.index("the same", x -> x.move(0, 0));
            ROOMY.stations("the same", 2, (x, a) -> x.move(a[0], a[0]));
            FULL.stations("from an empty one", 5, (x, a) -> x.move(4, a[0]));
        });
    }

    private static void settings() {
        int[][] ranges = {{1, 30}, {1, 5}, {0, 99}, {0, 99}, {0, 99}};
        Check.sentence(21, "`v`: the new value, in its range", () -> {
            for (int what = 0; what < 5; what++) {
                int[] r = ranges[what];
                ROOMY.range("v of " + what, new int[] {what, 4}, 1, r[0], r[1], (x, a) -> x.set(a[0], a[1]));
            }
        });
        Check.sentence(21, "`what`: 0 to 4",
                () -> ROOMY.range("what", new int[] {0, 4}, 0, 0, 4, (x, a) -> x.set(a[0], a[1])));
        Check.sentence(21, "Returns the previous one.", ActionBoundaryTests::previousSetting);
        Check.sentence(21, "what is on the way stays on the way", ActionBoundaryTests::onTheWayStays);
        Check.sentence(21, "Throws `IllegalArgumentException` if what or v is out of range", () -> {
            for (int what = 0; what < 5; what++) {
                int k = what;
                FULL.argument("set(" + what + ", -1)", x -> x.set(k, -1));
                FULL.argument("set(" + what + ", 100)", x -> x.set(k, 100));
            }
            FULL.argument("set(0, 0)", x -> x.set(0, 0));
            FULL.argument("set(0, 31)", x -> x.set(0, 31));
            FULL.argument("set(1, 0)", x -> x.set(1, 0));
            FULL.argument("set(1, 6)", x -> x.set(1, 6));
            FULL.argument("set(-1, 1)", x -> x.set(-1, 1));
            FULL.argument("set(5, 1)", x -> x.set(5, 1));
            FULL.argument("both", x -> x.set(5, 100));
        });
    }

    private static void undoing() {
        Check.sentence(22, "Returns how many states are still remembered.", ActionBoundaryTests::fourteenStates);
        Check.sentence(22, "when one more is remembered, the oldest one is forgotten",
                ActionBoundaryTests::oldestIsForgotten);
        Check.sentence(22, "is an action, also if nothing becomes different", ActionBoundaryTests::withoutDifference);
        Check.sentence(22, "(undo is none)", ActionBoundaryTests::undoIsNoAction);
        Check.sentence(22, "load and restore are not actions.", ActionBoundaryTests::loadAndRestoreAreNoActions);
        Check.sentence(22, "the state, which consists of everything but the text and the save slots",
                ActionBoundaryTests::textAndSlotsStay);
        Check.sentence(22, "Takes back the last action that is remembered.",
                ActionBoundaryTests::everyActionIsTakenBack);
        Check.sentence(22, "Throws `IllegalStateException` if none is remembered", ActionBoundaryTests::noneRemembered);
    }

    // ---- 14: addStation

    private static void stationAtTheEdges() {
        int[][] edges = {{0, 0, 1, 0, 0}, {99, 15, 5, 999, 99}};
        for (int[] e : edges) {
            SondeStations x = new SondeStations();
            x.addStation(e[0], e[1], e[2], e[3], e[4]);
            for (int what = 0; what < 5; what++) {
                int k = what;
                Check.is("station(0, " + what + ")", e[what], () -> x.station(0, k));
            }
            for (int flights = 0; flights < 5; flights++) {
                int k = flights;
                Check.is("stock(0, " + flights + ")", flights == 0 ? e[4] : 0, () -> x.stock(0, k));
            }
            Check.is("station(0, 5)", 0, () -> x.station(0, 5));
            Check.is("station(0, 6)", 0, () -> x.station(0, 6));
            Check.is("paid", 0, () -> x.about(3));
        }
    }

    /** Behind many watches and gaps; hundreds of sondes were scrapped, came back and were lost. */
    private static SondeStations late() {
        SondeStations x = Nets.one(999, 99);
        x.addFinder(50, 0, 1);
        x.set(1, 2);
        x.deliver(0, 999, 99);
        x.deliver(0, 999, 99);
        for (int k = 0; k < 30; k++) {
            x.run(40);
        }
        for (int hour = 0; hour < 4; hour++) {
            x.wind(hour, 20);
            x.deliver(0, 999, 99);
        }
        for (int k = 0; k < 30; k++) {
            x.run(40);
        }
        return x;
    }

    private static void stationsOfALateNet() {
        SondeStations x = late();
        int[] due = {2400, 297 * 2 + 396, 396, 297, 297};
        int[] numbers = {2, 4, 6, 7, 8};
        for (int k = 0; k < due.length; k++) {
            int what = numbers[k];
            Check.is("about(" + what + ")", due[k], () -> x.about(what));
        }
        for (int s = 1; s < 5; s++) {
            int k = s;
            Check.is("addStation", s, () -> x.addStation(90 - k, k, k, 10 + k, k));
            int[] added = {90 - k, k, k, 10 + k, k, 0, 0};
            for (int what = 0; what < added.length; what++) {
                int asked = what;
                Check.is("station(" + s + ", " + what + ")", added[what], () -> x.station(k, asked));
            }
        }
        Check.state("a sixth", () -> x.addStation(0, 0, 1, 0, 0));
    }

    private static void findersOfALateNet() {
        SondeStations x = late();
        for (int f = 1; f < 6; f++) {
            int k = f;
            Check.is("addFinder", f, () -> x.addFinder(90 - k, k, 2 * k));
            int[] due = {90 - k, k, 2 * k, 0};
            for (int what = 0; what < due.length; what++) {
                int asked = what;
                Check.is("finder(" + f + ", " + what + ")", due[what], () -> x.finder(k, asked));
            }
        }
        Check.state("a seventh", () -> x.addFinder(0, 0, 1));
    }

    private static void numbersOfStations() {
        SondeStations x = new SondeStations();
        for (int s = 0; s < 5; s++) {
            int k = s;
            Check.is("addStation", s, () -> x.addStation(90 - k, k, 1 + k, 10 + k, k));
        }
        for (int s = 0; s < 5; s++) {
            int k = s;
            Check.is("station(" + s + ", 0)", 90 - s, () -> x.station(k, 0));
            Check.is("station(" + s + ", 3)", 10 + s, () -> x.station(k, 3));
            Check.is("station(" + s + ", 4)", s, () -> x.station(k, 4));
        }
        x.run(3);
        x.undo();
        x.undo();
        Check.is("the fifth once more", 4, () -> x.addStation(1, 0, 1, 0, 0));
        Check.is("nothing of the one that was taken back", 0, () -> x.station(4, 3) + x.station(4, 4));
    }

    private static void oneArgumentOutOfRange() {
        NEW.argument("place", x -> x.addStation(100, 0, 1, 0, 0));
        NEW.argument("hours", x -> x.addStation(0, -1, 1, 0, 0));
        NEW.argument("size", x -> x.addStation(0, 0, 6, 0, 0));
        NEW.argument("gas", x -> x.addStation(0, 0, 1, -1, 0));
        NEW.argument("sondes", x -> x.addStation(0, 0, 1, 0, -1));
        NEW.argument("all", x -> x.addStation(-1, -1, -1, -1, -1));
    }

    private static void sixthStation() {
        SondeStations x = new SondeStations();
        for (int s = 0; s < 5; s++) {
            Check.works("addStation", () -> x.addStation(0, 0, 1, 0, 0));
        }
        Check.state("a sixth", () -> x.addStation(0, 0, 1, 0, 0));
        FULL.state("a sixth", y -> y.addStation(0, 0, 1, 0, 0));
        FULL.state("a sixth with much in it", y -> y.addStation(99, 15, 5, 999, 99));
        x.undo();
        Check.is("behind undo there is room", 4, () -> x.addStation(0, 0, 1, 0, 0));
    }

    // ---- 15: addFinder

    private static void numbersOfFinders() {
        SondeStations x = new SondeStations();
        int[][] finders = {{0, 0, 1}, {99, 20, 30}, {1, 1, 2}, {50, 10, 15}, {98, 19, 29}, {0, 20, 30}};
        for (int f = 0; f < 6; f++) {
            int[] a = finders[f];
            Check.is("addFinder", f, () -> x.addFinder(a[0], a[1], a[2]));
        }
        for (int f = 0; f < 6; f++) {
            for (int what = 0; what < 3; what++) {
                int asked = f;
                int k = what;
                Check.is("finder(" + f + ", " + what + ")", finders[f][what], () -> x.finder(asked, k));
            }
        }
    }

    private static void seventhFinder() {
        SondeStations x = new SondeStations();
        for (int f = 0; f < 6; f++) {
            Check.works("addFinder", () -> x.addFinder(0, 0, 1));
        }
        Check.state("a seventh", () -> x.addFinder(0, 0, 1));
        FULL.state("a seventh", y -> y.addFinder(99, 20, 30));
        x.undo();
        Check.is("behind undo there is room", 5, () -> x.addFinder(0, 0, 1));
    }

    // ---- 16: wind

    private static void everyWindBehindEvery() {
        SondeStations x = new SondeStations();
        int previous = 0;
        for (int v = -20; v <= 20; v++) {
            int now = v;
            Check.is("wind(3, " + v + ")", 100 + previous, () -> x.wind(3, now));
            previous = v;
        }
        Check.is("wind(3, 0)", 120, () -> x.wind(3, 0));
        Check.is("wind(0, 1), another hour", 100, () -> x.wind(0, 1));
    }

    // ---- 17: change

    private static void everyChangeOfHours() {
        SondeStations x = Nets.one(0, 0);
        int previous = 15;
        for (int hours = 0; hours <= 15; hours++) {
            int now = hours;
            Check.is("change(0, " + hours + ", 5)", previous, () -> x.change(0, now, 1 + now % 5));
            Check.is("station(0, 2)", 1 + hours % 5, () -> x.station(0, 2));
            previous = hours;
        }
        Check.is("the same once more", 15, () -> x.change(0, 15, 1));
    }

    // ---- 18: deliver

    private static void arrivesInItsWatch() {
        for (int delay : new int[] {1, 2, 4, 29, 30}) {
            SondeStations x = new SondeStations();
            x.addStation(1, 0, 1, 0, 0);
            x.set(0, delay);
            x.run(3);
            x.deliver(0, 999, 99);
            x.run(delay);
            Check.is("gas before the watch of now plus " + delay, 0, () -> x.station(0, 3));
            Check.is("sondes before it", 0, () -> x.station(0, 4));
            Check.is("on the way before it", 1, () -> x.about(10));
            x.run(1);
            Check.is("gas behind the watch of now plus " + delay, 999, () -> x.station(0, 3));
            Check.is("sondes behind it, without flights", 99, () -> x.stock(0, 0));
            Check.is("on the way behind it", 0, () -> x.about(10));
            Check.is("they did not come back", 0, () -> x.about(7));
            x.run(40);
            Check.is("it comes once", 999, () -> x.station(0, 3));
        }
    }

    /** Eight deliveries that arrive in another order than that in which they were ordered, two in the same watch. */
    private static void eightOfThem() {
        int[] delays = {5, 30, 1, 8, 8, 2, 29, 3};
        int[] stations = {0, 1, 2, 3, 4, 4, 3, 2};
        SondeStations x = new SondeStations();
        for (int s = 0; s < 5; s++) {
            x.addStation(s, 0, 1, 0, 0);
        }
        for (int k = 0; k < 8; k++) {
            x.set(0, delays[k]);
            x.deliver(stations[k], 100 + k, 10 + k);
        }
        for (int watch = 0; watch <= 30; watch++) {
            x.run(1);
            int onTheWay = 0;
            int[] gas = new int[5];
            int[] sondes = new int[5];
            for (int k = 0; k < 8; k++) {
                boolean came = delays[k] <= watch;
                onTheWay += came ? 0 : 1;
                gas[stations[k]] += came ? 100 + k : 0;
                sondes[stations[k]] += came ? 10 + k : 0;
            }
            Check.is("about(10) behind watch " + watch, onTheWay, () -> x.about(10));
            for (int s = 0; s < 5; s++) {
                int asked = s;
                Check.is("station(" + s + ", 3) behind watch " + watch, gas[s], () -> x.station(asked, 3));
                Check.is("stock(" + s + ", 0) behind watch " + watch, sondes[s], () -> x.stock(asked, 0));
            }
        }
    }

    private static void paidWhenItIsOrdered() {
        SondeStations x = Nets.one(0, 0);
        x.deliver(0, 10, 1);
        Check.is("about(3)", 40, () -> x.about(3));
        x.set(2, 99);
        x.set(3, 99);
        x.run(9);
        Check.is("about(3) when it came", 40, () -> x.about(3));
        Check.is("coming(60, 2) of another one", 0, () -> x.coming(60, 2));
    }

    private static void lowestAndHighestPrice() {
        SondeStations x = Nets.one(0, 0);
        Check.is("gas alone", 2, () -> x.deliver(0, 1, 0));
        Check.is("sondes alone", 20, () -> x.deliver(0, 0, 1));
        Check.is("the most of both", 999 * 2 + 99 * 20, () -> x.deliver(0, 999, 99));
        x.set(2, 0);
        x.set(3, 0);
        Check.is("for nothing", 0, () -> x.deliver(0, 999, 99));
        x.set(2, 99);
        Check.is("gas alone has a price", 98901, () -> x.deliver(0, 999, 99));
        x.set(3, 99);
        Check.is("the highest", 108702, () -> x.deliver(0, 999, 99));
        Check.is("paid for all of them", 2 + 20 + 3978 + 0 + 98901 + 108702, () -> x.about(3));
    }

    private static void nothingOrNinth() {
        NEW.index("without a station there is nothing to refuse", x -> x.deliver(0, 0, 0));
        ROOMY.state("nothing", x -> x.deliver(0, 0, 0));
        Check.works("a gas", () -> Nets.roomy().deliver(0, 1, 0));
        Check.works("a sonde", () -> Nets.roomy().deliver(0, 0, 1));
        SondeStations x = Nets.one(0, 0);
        for (int k = 1; k <= 8; k++) {
            x.set(0, k);
            Check.works("delivery " + k, () -> x.deliver(0, 1, 0));
        }
        Check.state("a ninth", () -> x.deliver(0, 1, 0));
        x.run(1);
        Check.state("a ninth, nothing came yet", () -> x.deliver(0, 1, 0));
        x.run(1);
        Check.is("the first one came", 7, () -> x.about(10));
        Check.works("there is room", () -> x.deliver(0, 1, 0));
        Check.state("for one", () -> x.deliver(0, 1, 0));
        x.undo();
        Check.works("and again behind undo", () -> x.deliver(0, 0, 99));
        FULL.state("a ninth of both", y -> y.deliver(0, 999, 99));
        FULL.state("a ninth of gas", y -> y.deliver(4, 1, 0));
        FULL.state("a ninth of sondes", y -> y.deliver(4, 0, 1));
        FULL.state("a ninth of nothing", y -> y.deliver(4, 0, 0));
    }

    // ---- 19: move

    private static void mostFlownFirst() {
        SondeStations x = Nets.oneOfEachKindAt(0);
        for (int flights = 4; flights >= 0; flights--) {
            int f = flights;
            Check.is("stock(0, " + flights + ")", 1, () -> x.stock(0, f));
        }
        int onTheWay = x.about(9);
        for (int flights = 4; flights >= 0; flights--) {
            int f = flights;
            Check.is("move(0, 1)", flights, () -> x.move(0, 1));
            Check.is("it left", 0, () -> x.stock(0, f));
            Check.is("it is there at once", 1, () -> x.stock(1, f));
            Check.is("so many are left", flights, () -> x.station(0, 4));
        }
        Check.state("then none", () -> x.move(0, 1));
        for (int flights = 4; flights >= 0; flights--) {
            int f = flights;
            Check.is("move(1, 0)", f, () -> x.move(1, 0));
        }
        Check.is("nothing went on the way", onTheWay, () -> x.about(9));
        Check.is("nothing came back by it", 10, () -> x.about(7));
    }

    private static void sameOrEmpty() {
        SondeStations x = new SondeStations();
        x.addStation(1, 0, 1, 0, 1);
        x.addStation(1, 0, 1, 0, 0);
        Check.state("the same", () -> x.move(0, 0));
        Check.state("the same, empty", () -> x.move(1, 1));
        Check.state("an empty one", () -> x.move(1, 0));
        Check.is("the last sonde", 0, () -> x.move(0, 1));
        Check.state("now that one is empty", () -> x.move(0, 1));
        Check.is("and back", 0, () -> x.move(1, 0));
        for (int s = 0; s < 5; s++) {
            int k = s;
            FULL.state("move(" + s + ", " + s + ")", y -> y.move(k, k));
            if (s < 4) {
                FULL.state("move(4, " + s + ")", y -> y.move(4, k));
            }
        }
    }

    // ---- 21: set

    private static void previousSetting() {
        int[] first = {4, 3, 2, 20, 5};
        int[] lowest = {1, 1, 0, 0, 0};
        int[] highest = {30, 5, 99, 99, 99};
        SondeStations x = new SondeStations();
        for (int what = 0; what < 5; what++) {
            int k = what;
            int previous = first[what];
            for (int v = lowest[what]; v <= highest[what]; v++) {
                int now = v;
                Check.is("set(" + what + ", " + v + ")", previous, () -> x.set(k, now));
                previous = v;
            }
        }
    }

    private static void onTheWayStays() {
        SondeStations x = Nets.one(9, 2);
        x.addFinder(50, 0, 5);
        x.set(1, 2);
        x.run(1);
        x.deliver(0, 5, 0);
        x.set(0, 1);
        x.set(1, 1);
        Check.is("the sonde is on the way", 1, () -> x.about(9));
        Check.is("its watch", 5, () -> x.back(0, 0));
        x.change(0, 0, 1);
        x.run(4);
        Check.is("the delivery is still on the way", 1, () -> x.about(10));
        x.set(4, 9);
        x.run(1);
        Check.is("the delivery came in watch 5", 13, () -> x.station(0, 3));
        Check.is("the sonde came, not scrapped", 1, () -> x.stock(0, 1));
        Check.is("and the reward as it is then", 10 + 9, () -> x.about(3));
        x.deliver(0, 1, 0);
        x.set(0, 30);
        x.run(2);
        Check.is("with the time when it was ordered", 14, () -> x.station(0, 3));
    }

    // ---- 22: undo

    private static void fourteenStates() {
        for (int actions = 1; actions <= 30; actions++) {
            SondeStations x = new SondeStations();
            for (int k = 0; k < actions; k++) {
                x.run(1);
            }
            int remembered = Math.min(14, actions);
            for (int left = remembered - 1; left >= 0; left--) {
                Check.is("undo() behind " + actions, left, x::undo);
            }
            Check.state("no more behind " + actions, x::undo);
            int forgotten = actions - remembered;
            Check.is("the watch then", forgotten, () -> x.about(2));
        }
    }

    private static void oldestIsForgotten() {
        SondeStations x = new SondeStations();
        for (int k = 1; k <= 15; k++) {
            x.set(2, k);
        }
        for (int k = 14; k >= 1; k--) {
            int due = k;
            x.undo();
            Check.is("setting(2)", due, () -> x.setting(2));
        }
        Check.state("the first one is forgotten", x::undo);
        Check.is("what it did stays", 1, () -> x.setting(2));
        for (int k = 20; k < 33; k++) {
            x.set(2, k);
        }
        x.undo();
        x.set(2, 50);
        x.set(2, 51);
        for (int k = 13; k >= 0; k--) {
            int left = k;
            Check.is("undo()", left, x::undo);
        }
        Check.is("all of them taken back", 1, () -> x.setting(2));
        Check.state("none is left", x::undo);
    }

    private static void withoutDifference() {
        SondeStations x = Nets.one(0, 0);
        x.wind(1, 0);
        x.change(0, 15, 1);
        x.set(0, 4);
        x.set(4, 5);
        for (int left = 4; left >= 0; left--) {
            int due = left;
            Check.is("undo()", due, x::undo);
        }
        Check.is("the station is taken back", 0, () -> x.about(0));
    }

    private static void undoIsNoAction() {
        SondeStations x = new SondeStations();
        x.run(1);
        x.run(2);
        x.run(3);
        Check.is("undo()", 2, x::undo);
        Check.is("undo() again", 1, x::undo);
        Check.is("the watch", 1, () -> x.about(2));
        x.run(4);
        Check.is("undo() behind another action", 1, x::undo);
        Check.is("the watch then", 1, () -> x.about(2));
        Check.is("and the first one", 0, x::undo);
        Check.is("the watch of the start", 0, () -> x.about(2));
    }

    private static void loadAndRestoreAreNoActions() {
        SondeStations x = Nets.full();
        x.load();
        Check.state("undo() behind load()", x::undo);
        SondeStations y = Nets.full();
        y.restore(1);
        Check.state("undo() behind restore()", y::undo);
        SondeStations z = Nets.full();
        z.save(0);
        Check.is("save() is none, too", 13, z::undo);
    }

    private static void textAndSlotsStay() {
        SondeStations x = new SondeStations();
        x.run(1);
        Nets.type(x, "Nr1");
        x.save(0);
        x.undo();
        Check.is("the text", 3, x::clearText);
        Check.is("the slot", 1, () -> x.restore(0));
    }

    private static void everyActionIsTakenBack() {
        takenBack("addStation", x -> x.addStation(1, 1, 1, 1, 1));
        takenBack("addFinder", x -> x.addFinder(1, 1, 1));
        takenBack("wind", x -> x.wind(0, 20));
        takenBack("change", x -> x.change(0, 1, 5));
        takenBack("deliver", x -> x.deliver(0, 9, 9));
        takenBack("move", x -> x.move(1, 0));
        takenBack("run(1)", x -> x.run(1));
        takenBack("run(40)", x -> x.run(40));
        takenBack("set", x -> x.set(1, 5));
    }

    private static void takenBack(String what, Consumer<SondeStations> action) {
        SondeStations x = Nets.roomy();
        String before = Nets.look(x);
        action.accept(x);
        x.undo();
        Check.same(what + " taken back", Nets.look(x), before);
    }

    private static void noneRemembered() {
        NEW.state("undo() of a new object", SondeStations::undo);
        new Refused(() -> Nets.loaded("Ns20151052f200002r3")).state("undo() behind load()", SondeStations::undo);
        new Refused(() -> {
            SondeStations x = Nets.full();
            x.restore(0);
            return x;
        }).state("undo() behind restore()", SondeStations::undo);
        new Refused(() -> {
            SondeStations x = Nets.full();
            for (int k = 0; k < 14; k++) {
                x.undo();
            }
            return x;
        }).state("undo() behind 14 of them", SondeStations::undo);
    }
}

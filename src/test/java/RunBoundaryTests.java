/** The boundary cases of promise 20, run, and of what the terms say about a watch. */
public final class RunBoundaryTests {
    private static final Refused NEW = new Refused(SondeStations::new);
    private static final Refused ROOMY = new Refused(Nets::roomy);
    private static final Refused FULL = new Refused(Nets::full);

    private RunBoundaryTests() {
    }

    public static void main(String[] args) {
        Check.sentence(20, "`n`: 1 to 40", () -> {
            ROOMY.range("run(n), n", new int[] {1}, 0, 1, 40, (x, a) -> x.run(a[0]));
            NEW.range("run(n), n", new int[] {1}, 0, 1, 40, (x, a) -> x.run(a[0]));
        });
        Check.sentence(20, "Throws `IllegalArgumentException` if n is out of range", () -> {
            FULL.argument("run(0)", x -> x.run(0));
            FULL.argument("run(41)", x -> x.run(41));
            FULL.argument("run(60)", x -> x.run(60));
            FULL.argument("run(-1)", x -> x.run(-1));
        });
        Check.sentence(20, "Lets watches go by.", RunBoundaryTests::soManyWatches);
        Check.sentence(20, "Returns how many releases there are in them.", RunBoundaryTests::noneAndAllRelease);
        Check.sentence(20, "An object is used for at most 512 calls", RunBoundaryTests::longestRun);
        Check.sentence(20, "so the hour of a watch is its number modulo 4", RunBoundaryTests::hoursOfTheDay);
        Check.sentence(20, "it needs as much gas as the size of its balloons, and a sonde",
                RunBoundaryTests::justEnough);
        Check.sentence(20,
                "If it has less gas, there is a gap by gas; otherwise, if its stock is empty, there is a gap "
                + "by sondes.", RunBoundaryTests::gasBeforeSondes);
        Check.sentence(20, "Each station, ascending", RunBoundaryTests::ascending);
        Check.sentence(20, "the sonde of the stock that made most flights goes up", RunBoundaryTests::mostFlownGoesUp);
        Check.sentence(20,
                "It lands at the place of the station plus the wind of this hour times the size of the balloon",
                RunBoundaryTests::windOfTheHour);
        Check.sentence(20, "if there is no such place (below 0 or above 99)", RunBoundaryTests::everyLanding);
        Check.sentence(20, "or nobody finds what lands there, it is lost", RunBoundaryTests::justInReach);
        Check.sentence(20, "found by the nearest one of the finders in whose reach it is, of several the lowest",
                RunBoundaryTests::nearestFinder);
        Check.sentence(20, "nearest to the finder when something is found, of several the lowest",
                RunBoundaryTests::sentToTheNearest);
        Check.sentence(20, "has made as many flights as setting 1 tells, or more, it is scrapped",
                RunBoundaryTests::lastFlight);
        Check.sentence(20, "arrives in the watch of now plus the delay of the finder", RunBoundaryTests::delays);
        Check.sentence(20, "What is on the way and arrives now comes", RunBoundaryTests::comesBeforeTheRelease);
        Check.sentence(20, "the reward (setting 4, as it is then) is paid for each", RunBoundaryTests::rewards);
        Check.end("RunBoundaryTests");
    }

    private static void soManyWatches() {
        for (int n = 1; n <= 40; n++) {
            int watches = n;
            SondeStations x = Nets.one(0, 0);
            Check.is("run(" + n + ")", 0, () -> x.run(watches));
            Check.is("the watch behind it", n, () -> x.about(2));
            Check.is("a gap in each", n, () -> x.about(5));
            Check.is("the last one", n - 1, () -> x.gap(0, 0));
        }
    }

    private static void noneAndAllRelease() {
        SondeStations x = new SondeStations();
        Check.is("without stations", 0, () -> x.run(40));
        for (int s = 0; s < 5; s++) {
            x.addStation(s, 15, 1, 80, 80);
        }
        Check.is("all five, in all 40", 200, () -> x.run(40));
        Check.is("those of before do not count", 200, () -> x.run(40));
        Check.is("and none any more", 0, () -> x.run(40));
        Check.is("about(4)", 400, () -> x.about(4));
        Check.is("station(4, 5)", 80, () -> x.station(4, 5));
        SondeStations y = Nets.one(3, 99);
        Check.is("some", 3, () -> y.run(40));
    }

    private static void longestRun() {
        SondeStations x = new SondeStations();
        for (int s = 0; s < 5; s++) {
            x.addStation(20 * s, 15, 1, 999, 99);
            x.addFinder(20 * s, 0, 30);
        }
        x.set(1, 5);
        x.set(4, 99);
        for (int k = 0; k < 494; k++) {
            x.run(40);
        }
        // 495 sondes fly five times each, for which there is gas enough; all else are gaps
        Check.is("about(2)", 19760, () -> x.about(2));
        Check.is("about(4)", 2475, () -> x.about(4));
        Check.is("about(5)", 5 * 19760 - 2475, () -> x.about(5));
        Check.is("about(7)", 1980, () -> x.about(7));
        Check.is("about(8)", 495, () -> x.about(8));
        Check.is("about(3)", 1980 * 99, () -> x.about(3));
    }

    private static void hoursOfTheDay() {
        for (int hour = 0; hour < 4; hour++) {
            SondeStations x = new SondeStations();
            x.addStation(0, 1 << hour, 1, 0, 0);
            x.run(40);
            Check.is("gaps at hour " + hour, 10, () -> x.about(5));
            for (int k = 0; k < 10; k++) {
                int asked = k;
                Check.is("gap(" + k + ", 0) at hour " + hour, 36 + hour - 4 * k, () -> x.gap(asked, 0));
            }
        }
    }

    private static void justEnough() {
        for (int size = 1; size <= 5; size++) {
            int z = size;
            for (int gas = 0; gas <= 11; gas++) {
                int releases = gas / size;
                SondeStations x = new SondeStations();
                x.addStation(0, 15, size, gas, 99);
                Check.is("run(20) with the size " + size + " and the gas " + gas, releases, () -> x.run(20));
                int left = gas % z;
                Check.is("the gas that is left", left, () -> x.station(0, 3));
                Check.is("the sondes that are left", 99 - releases, () -> x.station(0, 4));
                Check.is("the gaps by gas", 20 - releases, () -> x.station(0, 6));
                Check.is("the reason", 1, () -> x.gap(0, 2));
            }
        }
        SondeStations y = Nets.one(999, 3);
        Check.is("three sondes", 3, () -> y.run(20));
        Check.is("then gaps by sondes", 2, () -> y.gap(0, 2));
        Check.is("from watch 3 on", 17, () -> y.about(5));
        Check.is("a gap takes no gas", 996, () -> y.station(0, 3));
    }

    private static void gasBeforeSondes() {
        int[][] cases = {{1, 1, 0, 2}, {2, 1, 0, 1}, {2, 1, 1, 1}, {5, 5, 0, 2}, {5, 4, 0, 1}, {5, 4, 9, 1}};
        for (int[] c : cases) {
            SondeStations x = new SondeStations();
            x.addStation(0, 15, c[0], c[1], c[2]);
            Check.is("run(1)", 0, () -> x.run(1));
            Check.is("size " + c[0] + ", gas " + c[1] + ", sondes " + c[2], c[3], () -> x.gap(0, 2));
            Check.is("one gap", 1, () -> x.station(0, 6));
            Check.is("the gas stays", c[1], () -> x.station(0, 3));
            Check.is("the sondes stay", c[2], () -> x.station(0, 4));
        }
    }

    private static void ascending() {
        SondeStations x = new SondeStations();
        for (int s = 0; s < 5; s++) {
            x.addStation(90 - s, 15, 1, 0, 0);
        }
        x.run(1);
        for (int k = 0; k < 5; k++) {
            int asked = k;
            Check.is("gap(" + k + ", 1)", 4 - k, () -> x.gap(asked, 1));
        }
    }

    /** Station 0 has a sonde that flew once and two that did not; only the one that goes up becomes 2. */
    private static void mostFlownGoesUp() {
        SondeStations x = Nets.one(99, 3);
        x.addFinder(50, 0, 1);
        x.run(3);
        Check.is("scrapped behind its third flight, the others waited", 1, () -> x.about(8));
        Check.is("stock(0, 0)", 2, () -> x.stock(0, 0));
        x.run(1);
        Check.is("then one of the others", 1, () -> x.stock(0, 0));
        x.run(5);
        Check.is("all are scrapped", 3, () -> x.about(8));
        Check.is("run(1)", 0, () -> x.run(1));
        Check.is("about(4)", 9, () -> x.about(4));
    }

    private static void windOfTheHour() {
        SondeStations x = new SondeStations();
        x.addStation(50, 15, 2, 99, 99);
        int[] winds = {-20, 20, 1, 0};
        int[] places = {10, 90, 52, 50};
        for (int hour = 0; hour < 4; hour++) {
            x.wind(hour, winds[hour]);
            x.addFinder(places[hour], 0, 30);
        }
        for (int watch = 0; watch < 8; watch++) {
            x.run(1);
            for (int f = 0; f < 4; f++) {
                int asked = f;
                int due = (watch + 4 - f) / 4;
                Check.is("finder(" + f + ", 3) behind watch " + watch, due, () -> x.finder(asked, 3));
            }
        }
        Check.is("none is lost", 0, () -> x.about(6));
    }

    private static void everyLanding() {
        for (int place : new int[] {0, 1, 20, 50, 79, 98, 99}) {
            for (int size = 1; size <= 5; size++) {
                for (int v = -20; v <= 20; v++) {
                    SondeStations x = new SondeStations();
                    x.addStation(place, 15, size, 99, 1);
                    x.wind(0, v);
                    // together they find at all places
                    x.addFinder(0, 20, 1);
                    x.addFinder(40, 20, 1);
                    x.addFinder(61, 20, 1);
                    x.addFinder(80, 20, 1);
                    x.addFinder(99, 20, 1);
                    x.run(1);
                    int landed = place + size * v;
                    int due = landed < 0 || landed > 99 ? 1 : 0;
                    String what = " from " + place + " with the size " + size + " and the wind " + v;
                    Check.is("lost" + what, due, () -> x.about(6));
                    Check.is("on the way" + what, 1 - due, () -> x.about(9));
                }
            }
        }
    }

    private static void justInReach() {
        for (int reach = 0; reach <= 20; reach++) {
            for (int off : new int[] {-reach - 1, -reach, 0, reach, reach + 1}) {
                SondeStations x = Nets.one(9, 1);
                x.addFinder(50 - off, reach, 1);
                x.run(1);
                int due = Math.abs(off) <= reach ? 1 : 0;
                Check.is("found with the reach " + reach + ", off by " + off, due, () -> x.finder(0, 3));
                Check.is("lost with the reach " + reach + ", off by " + off, 1 - due, () -> x.about(6));
            }
        }
        SondeStations y = Nets.one(9, 1);
        y.run(1);
        Check.is("lost without finders", 1, () -> y.about(6));
        Check.is("not on the way", 0, () -> y.about(9));
    }

    private static void nearestFinder() {
        // places and reaches of finders, and who finds what lands at 50
        int[][][] cases = {{{48, 2}, {52, 2}, {0}}, {{52, 2}, {48, 2}, {0}}, {{48, 1}, {52, 2}, {1}},
            {{47, 20}, {52, 2}, {1}}, {{47, 20}, {52, 1}, {0}}, {{30, 20}, {70, 20}, {0}}, {{29, 20}, {70, 20}, {1}},
            {{50, 0}, {50, 20}, {0}}, {{51, 20}, {50, 0}, {1}}, {{49, 0}, {51, 0}, {-1}}};
        for (int[][] c : cases) {
            SondeStations x = Nets.one(9, 1);
            x.addFinder(c[0][0], c[0][1], 1);
            x.addFinder(c[1][0], c[1][1], 1);
            x.run(1);
            for (int f = 0; f < 2; f++) {
                int asked = f;
                int due = c[2][0] == f ? 1 : 0;
                String what = c[0][0] + ", " + c[0][1] + " and " + c[1][0] + ", " + c[1][1];
                Check.is("finder(" + f + ", 3) of " + what, due, () -> x.finder(asked, 3));
            }
        }
    }

    private static void sentToTheNearest() {
        SondeStations x = Nets.one(9, 2);
        x.addFinder(40, 20, 9);
        x.run(1);
        Check.is("to where it came from", 0, () -> x.back(0, 1));
        x.addStation(30, 0, 1, 0, 0);
        x.run(1);
        Check.is("of two the lowest", 0, () -> x.back(1, 1));
        x.undo();
        x.addStation(31, 0, 1, 0, 0);
        x.run(1);
        Check.is("the nearest one then", 2, () -> x.back(1, 1));
        Check.is("the first one stays sent to 0", 0, () -> x.back(0, 1));
        x.change(0, 0, 1);
        x.run(10);
        Check.is("one came to 0", 1, () -> x.station(0, 4));
        Check.is("and one to 2", 1, () -> x.station(2, 4));
    }

    private static void lastFlight() {
        for (int most = 1; most <= 5; most++) {
            SondeStations x = Nets.one(99, 1);
            x.addFinder(50, 0, 1);
            x.set(1, most);
            int flights = most;
            Check.is("run(40) with setting 1 of " + most, flights, () -> x.run(40));
            Check.is("scrapped", 1, () -> x.about(8));
            Check.is("came back", flights - 1, () -> x.about(7));
            Check.is("gone", 0, () -> x.about(9) + x.about(11));
            Check.is("found", flights, () -> x.finder(0, 3));
        }
        for (int flown = 1; flown <= 4; flown++) {
            for (int most = 1; most <= flown; most++) {
                SondeStations x = Nets.one(99, 1);
                x.addFinder(50, 0, 1);
                x.set(1, 5);
                x.run(flown);
                x.set(1, most);
                int flights = flown;
                Check.is("it still comes", flights, () -> x.back(0, 2));
                Check.is("and goes up", 1, () -> x.run(1));
                Check.is("more than " + most + " flights", 1, () -> x.about(8));
                Check.is("comes no more", 0, () -> x.about(9));
            }
        }
    }

    private static void delays() {
        for (int delay : new int[] {1, 2, 29, 30}) {
            SondeStations x = new SondeStations();
            x.addStation(50, 8, 1, 99, 1);
            x.addFinder(50, 0, delay);
            x.run(4);
            Check.is("back(0, 0) with the delay " + delay, 3 + delay, () -> x.back(0, 0));
            x.change(0, 0, 1);
            if (delay > 1) {
                x.run(delay - 1);
            }
            Check.is("on the way before that watch", 1, () -> x.about(9));
            Check.is("not in the stock", 0, () -> x.stock(0, 1));
            x.run(1);
            Check.is("behind that watch none is on the way", 0, () -> x.about(9));
            Check.is("it is in the stock", 1, () -> x.stock(0, 1));
        }
    }

    private static void comesBeforeTheRelease() {
        SondeStations x = Nets.one(2, 1);
        x.addFinder(50, 0, 1);
        Check.is("the sonde comes and goes up", 2, () -> x.run(2));
        SondeStations y = Nets.one(0, 0);
        y.set(0, 1);
        y.deliver(0, 1, 1);
        y.run(1);
        Check.is("the delivery comes and is used", 1, () -> y.run(1));
        Check.is("one gap, before it", 1, () -> y.about(5));
    }

    private static void rewards() {
        SondeStations x = new SondeStations();
        for (int s = 0; s < 5; s++) {
            x.addStation(20 * s, 1, 1, 9, 9);
            x.addFinder(20 * s, 0, 2);
        }
        x.run(1);
        x.set(4, 99);
        x.run(1);
        Check.is("nothing is paid before they come", 0, () -> x.about(3));
        x.run(1);
        Check.is("for each of the five", 495, () -> x.about(3));
        Check.is("about(7)", 5, () -> x.about(7));
        x.set(4, 0);
        x.run(8);
        Check.is("then for nothing", 495, () -> x.about(3));
        Check.is("they came", 10, () -> x.about(7));
        x.set(4, 99);
        x.set(1, 1);
        x.run(8);
        Check.is("scrapped ones get no reward", 495, () -> x.about(3));
        Check.is("about(8)", 15, () -> x.about(8));
    }
}

/** The boundary cases that the promises 23 to 28 name: what would be. */
public final class ForesightBoundaryTests {
    private static final Refused NEW = new Refused(SondeStations::new);
    private static final Refused ROOMY = new Refused(Nets::roomy);
    private static final Refused FULL = new Refused(Nets::full);
    private static final String FIRST_NAMED =
            "If several exceptions apply to a call, the one that its description names first is thrown.";

    private ForesightBoundaryTests() {
    }

    public static void main(String[] args) {
        landings();
        findings();
        comings();
        firstGaps();
        lacking();
        deliveries();
        Check.end("ForesightBoundaryTests");
    }

    private static void landings() {
        Refused.CallWith landing = (x, a) -> x.landing(a[0], a[1]);
        Check.sentence(23, "`hour`: 0 to 3", () -> {
            ROOMY.range("hour", new int[] {1, 0}, 1, 0, 3, landing);
            ROOMY.quiet("landing(1, 3)", x -> x.landing(1, 3));
        });
        Check.sentence(23, "NONE if there is no such place.", ForesightBoundaryTests::everyLanding);
        Check.sentence(23, "Throws `IndexOutOfBoundsException` if there is no such station", () -> {
            NEW.stations("landing", 0, landing, 0);
            ROOMY.stations("landing", 2, landing, 0);
            FULL.stations("landing", 5, landing, 3);
            FULL.quiet("landing(4, 0)", x -> x.landing(4, 0));
        });
        Check.sentence(23, "Throws `IllegalArgumentException` if hour is out of range", () -> {
            FULL.argument("landing(4, -1)", x -> x.landing(4, -1));
            FULL.argument("landing(4, 4)", x -> x.landing(4, 4));
        });
        Check.sentence(23, FIRST_NAMED, () -> {
            NEW.stations("hour 4", 0, landing, 4);
            FULL.stations("hour -1", 5, landing, -1);
        });
    }

    private static void findings() {
        Refused.CallWith finds = (x, a) -> x.finds(a[0]);
        Check.sentence(24, "`place`: 0 to 99", () -> {
            ROOMY.range("place", new int[] {50}, 0, 0, 99, finds);
            ROOMY.quiet("finds(99)", x -> x.finds(99));
        });
        Check.sentence(24, "NONE if nobody would.", ForesightBoundaryTests::justInReach);
        Check.sentence(24, "Returns the finder who would find what lands there", ForesightBoundaryTests::nearestLowest);
        Check.sentence(24, "Throws `IllegalArgumentException` if place is out of range", () -> {
            NEW.argument("finds(-1)", x -> x.finds(-1));
            NEW.argument("finds(100)", x -> x.finds(100));
            FULL.argument("finds(-1)", x -> x.finds(-1));
            FULL.argument("finds(100)", x -> x.finds(100));
        });
    }

    private static void comings() {
        Refused.CallWith coming = (x, a) -> x.coming(a[0], a[1]);
        Check.sentence(25, "`n`: 1 to 60: so many watches, from now on", () -> {
            ROOMY.range("n", new int[] {1, 0}, 0, 1, 60, coming);
            soManyWatches();
        });
        Check.sentence(25, "3: the sondes in all stocks then", () -> {
            ROOMY.range("what", new int[] {1, 0}, 1, 0, 3, coming);
            asTheWatchesBringIt();
        });
        Check.sentence(25, "Throws `IllegalArgumentException` if n is out of range, or what is not 0 to 3", () -> {
            FULL.argument("n 0", x -> x.coming(0, 0));
            FULL.argument("n 61", x -> x.coming(61, 3));
            FULL.argument("what -1", x -> x.coming(60, -1));
            FULL.argument("what 4", x -> x.coming(1, 4));
            FULL.argument("both", x -> x.coming(61, 4));
        });
        Check.sentence(25, "these and all following methods up to the save slots change nothing", () -> {
            for (int what = 0; what < 4; what++) {
                int k = what;
                FULL.quiet("coming(60, " + what + ")", x -> x.coming(60, k));
                ROOMY.quiet("coming(1, " + what + ")", x -> x.coming(1, k));
            }
        });
    }

    private static void firstGaps() {
        Check.sentence(26, "the next 60 (that of now is the first of them)", ForesightBoundaryTests::firstAndLastOf60);
        Check.sentence(26, "NONE if there is none.", ForesightBoundaryTests::noGapInSixty);
        Check.sentence(26, "in which there is a gap", ForesightBoundaryTests::gapOfAnyStationAndReason);
        Check.sentence(26, "these and all following methods up to the save slots change nothing", () -> {
            NEW.quiet("firstGap()", SondeStations::firstGap);
            ROOMY.quiet("firstGap()", SondeStations::firstGap);
            FULL.quiet("firstGap()", SondeStations::firstGap);
        });
    }

    private static void lacking() {
        Refused.CallWith lacks = (x, a) -> x.lacks(a[0], a[1]);
        Check.sentence(27, "`n`: 1 to 60", () -> {
            ROOMY.range("n", new int[] {1, 1}, 1, 1, 60, lacks);
            lacksInSoManyWatches();
        });
        Check.sentence(27, "Returns the least amount of gas (perhaps 0)", ForesightBoundaryTests::nothingLacks);
        Check.sentence(27, "that would have to be added to s now, so that it would have no gap by gas",
                ForesightBoundaryTests::justSoMuchLacks);
        Check.sentence(27, "no gap by gas in the next n watches", ForesightBoundaryTests::gasThatComesInTime);
        Check.sentence(27, "Throws `IndexOutOfBoundsException` if there is no such station", () -> {
            NEW.stations("lacks", 0, lacks, 1);
            ROOMY.stations("lacks", 2, lacks, 60);
            FULL.stations("lacks", 5, lacks, 60);
            FULL.quiet("lacks(4, 60)", x -> x.lacks(4, 60));
            FULL.quiet("lacks(0, 60)", x -> x.lacks(0, 60));
        });
        Check.sentence(27, "Throws `IllegalArgumentException` if n is out of range", () -> {
            FULL.argument("lacks(4, 0)", x -> x.lacks(4, 0));
            FULL.argument("lacks(4, 61)", x -> x.lacks(4, 61));
        });
        Check.sentence(27, FIRST_NAMED, () -> {
            NEW.stations("n 0", 0, lacks, 0);
            FULL.stations("n 61", 5, lacks, 61);
        });
    }

    private static void deliveries() {
        int[] good = {1, 5, 5, 60};
        Refused.CallWith call = (x, a) -> x.ifDelivered(a[0], a[1], a[2], a[3]);
        Check.sentence(28, "`gas`: 0 to 999", () -> ROOMY.range("gas", good, 1, 0, 999, call));
        Check.sentence(28, "`sondes`: 0 to 99", () -> ROOMY.range("sondes", good, 2, 0, 99, call));
        Check.sentence(28, "`n`: 1 to 60", () -> ROOMY.range("n", good, 3, 1, 60, call));
        Check.sentence(28, "Returns coming(n, 1) behind deliver(s, gas, sondes).",
                ForesightBoundaryTests::asBehindTheDelivery);
        Check.sentence(28, "Throws `IndexOutOfBoundsException` if there is no such station", () -> {
            NEW.stations("ifDelivered", 0, call, 1, 1, 1);
            ROOMY.stations("ifDelivered", 2, call, 1, 1, 1);
            Check.works("the last one", () -> Nets.roomy().ifDelivered(1, 1, 1, 1));
        });
        Check.sentence(28, "Throws `IllegalArgumentException` if another argument is out of range", () -> {
            ROOMY.argument("gas", x -> x.ifDelivered(0, 1000, 1, 1));
            ROOMY.argument("sondes", x -> x.ifDelivered(0, 1, 100, 1));
            ROOMY.argument("n 0", x -> x.ifDelivered(0, 1, 1, 0));
            ROOMY.argument("n 61", x -> x.ifDelivered(0, 1, 1, 61));
        });
        Check.sentence(28, "Throws `IllegalStateException` if deliver() would throw it",
                ForesightBoundaryTests::nothingOrNinth);
        Check.sentence(28, FIRST_NAMED, () -> {
            FULL.stations("gas", 5, call, 1000, 1, 1);
            FULL.stations("n", 5, call, 1, 1, 0);
            FULL.stations("nothing", 5, call, 0, 0, 1);
            FULL.argument("gas, and a ninth", x -> x.ifDelivered(0, -1, 1, 1));
            FULL.argument("sondes, and a ninth", x -> x.ifDelivered(0, 1, -1, 1));
            FULL.argument("n, and a ninth", x -> x.ifDelivered(0, 1, 1, 61));
            ROOMY.argument("n, and nothing", x -> x.ifDelivered(0, 0, 0, 0));
            ROOMY.argument("n, and nothing", x -> x.ifDelivered(0, 0, 0, 61));
        });
    }

    // ---- 23: landing

    private static void everyLanding() {
        for (int place : new int[] {0, 1, 20, 50, 79, 98, 99}) {
            for (int size = 1; size <= 5; size++) {
                SondeStations x = new SondeStations();
                x.addStation(place, 0, size, 0, 0);
                for (int v = -20; v <= 20; v++) {
                    int hour = v & 3;
                    x.wind(hour, v);
                    int landed = place + size * v;
                    int due = landed < 0 || landed > 99 ? SondeStations.NONE : landed;
                    Check.is("landing from " + place + ", size " + size + ", wind " + v, due, () -> x.landing(0, hour));
                }
            }
        }
        SondeStations y = new SondeStations();
        y.addStation(7, 0, 1, 0, 0);
        y.wind(2, -7);
        int[] due = {7, 7, 0, 7};
        for (int hour = 0; hour < 4; hour++) {
            int h = hour;
            Check.is("landing(0, " + hour + ")", due[hour], () -> y.landing(0, h));
        }
    }

    // ---- 24: finds

    private static void justInReach() {
        int[][] finders = {{0, 0}, {0, 20}, {99, 0}, {99, 20}, {50, 0}, {50, 1}, {50, 20}};
        for (int[] f : finders) {
            SondeStations x = new SondeStations();
            x.addFinder(f[0], f[1], 1);
            for (int place = 0; place <= 99; place++) {
                int p = place;
                int due = place >= f[0] - f[1] && place <= f[0] + f[1] ? 0 : SondeStations.NONE;
                Check.is("finds(" + place + ") of " + f[0] + ", " + f[1], due, () -> x.finds(p));
            }
        }
    }

    private static void nearestLowest() {
        SondeStations x = new SondeStations();
        x.addFinder(60, 20, 1);
        x.addFinder(50, 5, 1);
        x.addFinder(40, 20, 1);
        x.addFinder(50, 20, 1);
        x.addFinder(40, 1, 1);
        x.addFinder(0, 0, 1);
        // from this place on it is this finder; 45 is as far from 40 as from 50, and 55 as far from 50 as from 60
        int[][] due = {{0, 5}, {1, -1}, {20, 2}, {45, 1}, {55, 0}, {81, -1}};
        int next = 0;
        for (int place = 0; place <= 99; place++) {
            next += next < due.length && place == due[next][0] ? 1 : 0;
            int p = place;
            Check.is("finds(" + place + ")", due[next - 1][1], () -> x.finds(p));
        }
    }

    // ---- 25: coming

    private static void soManyWatches() {
        SondeStations x = Nets.one(30, 99);
        for (int n = 1; n <= 60; n++) {
            int watches = n;
            Check.is("coming(" + n + ", 0)", Math.min(30, n), () -> x.coming(watches, 0));
            Check.is("coming(" + n + ", 1)", Math.max(0, n - 30), () -> x.coming(watches, 1));
            Check.is("coming(" + n + ", 2)", 0, () -> x.coming(watches, 2));
            Check.is("coming(" + n + ", 3)", 99 - Math.min(30, n), () -> x.coming(watches, 3));
        }
        SondeStations y = Nets.one(60, 60);
        Check.is("60 releases", 60, () -> y.coming(60, 0));
        Check.is("no gap", 0, () -> y.coming(60, 1));
        y.run(1);
        Check.is("one watch later", 59, () -> y.coming(60, 0));
        Check.is("a gap in its last watch", 1, () -> y.coming(60, 1));
        Check.is("not yet in 59", 0, () -> y.coming(59, 1));
    }

    /** What coming tells is what becomes different when the watches go by. */
    private static void asTheWatchesBringIt() {
        for (int n = 1; n <= 60; n++) {
            for (boolean full : new boolean[] {false, true}) {
                SondeStations x = full ? Nets.full() : Nets.roomy();
                int[] told = new int[4];
                for (int what = 0; what < 4; what++) {
                    told[what] = x.coming(n, what);
                }
                int[] before = {x.about(4), x.about(5), x.about(3), 0};
                x.run(Math.min(n, 40));
                if (n > 40) {
                    x.run(n - 40);
                }
                int[] numbers = {4, 5, 3, 11};
                for (int what = 0; what < 4; what++) {
                    int k = what;
                    Check.is("coming(" + n + ", " + what + ")", x.about(numbers[what]) - before[what], () -> told[k]);
                }
            }
        }
    }

    // ---- 26: firstGap

    private static void firstAndLastOf60() {
        for (int gas = 0; gas <= 59; gas++) {
            int watch = gas;
            Check.is("firstGap() with the gas " + gas, watch, () -> Nets.one(watch, 99).firstGap());
        }
        SondeStations x = Nets.one(30, 99);
        for (int now = 0; now <= 35; now++) {
            int due = Math.max(30, now);
            Check.is("firstGap() in watch " + now, due, x::firstGap);
            x.run(1);
        }
        SondeStations y = Nets.one(65, 99);
        y.run(5);
        Check.is("firstGap(), 60 watches ahead", SondeStations.NONE, y::firstGap);
        y.run(1);
        Check.is("firstGap(), the last one of them", 65, y::firstGap);
    }

    private static void noGapInSixty() {
        Check.is("without stations", SondeStations.NONE, () -> new SondeStations().firstGap());
        Check.is("without hours", SondeStations.NONE, () -> withHours(0).firstGap());
        Check.is("with gas for 60", SondeStations.NONE, () -> Nets.one(60, 60).firstGap());
        Check.is("with gas for 59", 59, () -> Nets.one(59, 60).firstGap());
        Check.is("with sondes for 59", 59, () -> Nets.one(60, 59).firstGap());
        SondeStations x = Nets.one(0, 0);
        x.run(40);
        x.change(0, 0, 1);
        Check.is("those that were do not count", SondeStations.NONE, x::firstGap);
    }

    private static SondeStations withHours(int hours) {
        SondeStations x = new SondeStations();
        x.addStation(0, hours, 1, 0, 0);
        return x;
    }

    private static void gapOfAnyStationAndReason() {
        for (int hour = 0; hour < 4; hour++) {
            int h = hour;
            Check.is("firstGap() at hour " + hour, h, () -> withHours(1 << h).firstGap());
        }
        SondeStations x = Nets.one(99, 99);
        x.addStation(0, 15, 1, 7, 99);
        Check.is("by gas of the second one", 7, x::firstGap);
        SondeStations y = Nets.one(99, 99);
        y.addStation(0, 15, 1, 99, 8);
        Check.is("by sondes of the second one", 8, y::firstGap);
    }

    // ---- 27: lacks

    private static void lacksInSoManyWatches() {
        SondeStations x = new SondeStations();
        x.addStation(1, 15, 5, 10, 99);
        for (int n = 1; n <= 60; n++) {
            int watches = n;
            Check.is("lacks(0, " + n + ")", Math.max(0, 5 * n - 10), () -> x.lacks(0, watches));
        }
        SondeStations y = new SondeStations();
        y.addStation(1, 8, 5, 0, 99);
        for (int n = 1; n <= 60; n++) {
            int watches = n;
            Check.is("lacks(0, " + n + ") at hour 3", 5 * (n / 4), () -> y.lacks(0, watches));
        }
        y.run(3);
        Check.is("lacks(0, 1) when it is hour 3", 5, () -> y.lacks(0, 1));
    }

    private static void nothingLacks() {
        Check.is("with gas for 60", 0, () -> Nets.one(60, 99).lacks(0, 60));
        Check.is("with gas for 59", 1, () -> Nets.one(59, 99).lacks(0, 60));
        Check.is("without hours", 0, () -> withHours(0).lacks(0, 60));
        Check.is("with sondes for 10 alone", 0, () -> Nets.one(11, 10).lacks(0, 60));
        Check.is("and no gas behind them", 1, () -> Nets.one(10, 10).lacks(0, 60));
        Check.is("with neither", 1, () -> Nets.one(0, 0).lacks(0, 60));
        Check.is("gas enough to see that there is no sonde", 0, () -> Nets.one(1, 0).lacks(0, 60));
        SondeStations x = Nets.one(99, 99);
        x.addStation(1, 15, 5, 0, 99);
        Check.is("what another one lacks", 0, () -> x.lacks(0, 60));
        Check.is("the most that can lack", 300, () -> x.lacks(1, 60));
    }

    /** With as much as is told there is no gap by gas, with one less there is. */
    private static void justSoMuchLacks() {
        for (int gas = 0; gas <= 12; gas++) {
            for (int n = 1; n <= 40; n += 3) {
                for (int sondes = 0; sondes <= 4; sondes += 2) {
                    int told = flying(gas, sondes).lacks(0, n);
                    String what = "lacks with gas " + gas + ", sondes " + sondes + ", n " + n;
                    Check.same(what, "" + gapByGas(flying(gas + told, sondes), n), "false");
                    if (told > 0) {
                        Check.same(what + ", one less", "" + gapByGas(flying(gas + told - 1, sondes), n), "true");
                    }
                }
            }
        }
    }

    private static SondeStations flying(int gas, int sondes) {
        SondeStations x = new SondeStations();
        x.addStation(50, 13, 3, gas, sondes);
        x.addStation(40, 15, 1, 50, 6);
        x.addFinder(50, 20, 3);
        x.set(1, 5);
        x.wind(3, 4);
        x.deliver(0, 7, 1);
        return x;
    }

    private static boolean gapByGas(SondeStations x, int n) {
        boolean there = false;
        for (int k = 0; k < n; k++) {
            there = there || x.station(0, 7) == 2;
            x.run(1);
        }
        return there;
    }

    private static void gasThatComesInTime() {
        for (int delay = 1; delay <= 6; delay++) {
            SondeStations x = new SondeStations();
            x.addStation(1, 8, 5, 0, 99);
            x.set(0, delay);
            x.deliver(0, 4, 0);
            int due = delay <= 3 ? 1 : 5;
            Check.is("lacks(0, 4), a delivery within " + delay, due, () -> x.lacks(0, 4));
            Check.is("lacks(0, 3)", 0, () -> x.lacks(0, 3));
            int later = Math.max(due, 6);
            Check.is("lacks(0, 8)", later, () -> x.lacks(0, 8));
        }
        SondeStations y = Nets.one(0, 99);
        y.deliver(0, 999, 0);
        Check.is("gas that comes too late does not help", 4, () -> y.lacks(0, 60));
    }

    // ---- 28: ifDelivered

    private static void asBehindTheDelivery() {
        int[][] orders = {{0, 1}, {1, 0}, {5, 5}, {999, 0}, {0, 99}, {999, 99}};
        for (int[] order : orders) {
            for (int n : new int[] {1, 2, 4, 5, 6, 30, 31, 32, 59, 60}) {
                for (int s = 0; s < 2; s++) {
                    int asked = s;
                    SondeStations x = Nets.roomy();
                    x.deliver(s, order[0], order[1]);
                    String what = "ifDelivered(" + s + ", " + order[0] + ", " + order[1] + ", " + n + ")";
                    Check.is(what, x.coming(n, 1), () -> Nets.roomy().ifDelivered(asked, order[0], order[1], n));
                }
            }
        }
        SondeStations y = Nets.one(0, 99);
        Check.is("not there before its watch", 4, () -> y.ifDelivered(0, 999, 0, 4));
        Check.is("there in its watch", 4, () -> y.ifDelivered(0, 999, 0, 5));
        Check.is("and then for all", 4, () -> y.ifDelivered(0, 999, 0, 60));
        Check.is("a gas alone", 59, () -> y.ifDelivered(0, 1, 0, 60));
        y.set(0, 30);
        Check.is("within 30 watches", 30, () -> y.ifDelivered(0, 999, 0, 60));
        ROOMY.quiet("ifDelivered(0, 999, 99, 60)", x -> x.ifDelivered(0, 999, 99, 60));
        ROOMY.quiet("ifDelivered(1, 1, 0, 1)", x -> x.ifDelivered(1, 1, 0, 1));
    }

    private static void nothingOrNinth() {
        ROOMY.state("nothing", x -> x.ifDelivered(0, 0, 0, 60));
        FULL.state("a ninth", x -> x.ifDelivered(0, 999, 99, 60));
        FULL.state("a ninth of gas", x -> x.ifDelivered(4, 1, 0, 1));
        FULL.state("a ninth of sondes", x -> x.ifDelivered(4, 0, 1, 1));
        FULL.state("a ninth of nothing", x -> x.ifDelivered(4, 0, 0, 1));
        SondeStations y = Nets.roomy();
        Check.works("an eighth", () -> y.ifDelivered(0, 1, 0, 1));
        Check.works("an eighth, it was not ordered", () -> y.ifDelivered(0, 0, 1, 1));
        y.deliver(0, 1, 0);
        Check.state("a ninth, now it was", () -> y.ifDelivered(0, 1, 0, 1));
    }
}

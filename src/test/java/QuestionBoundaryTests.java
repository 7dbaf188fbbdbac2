/** The boundary cases that the promises 6 to 13 name: the questions about what there is. */
public final class QuestionBoundaryTests {
    private static final Refused NEW = new Refused(SondeStations::new);
    private static final Refused ROOMY = new Refused(Nets::roomy);
    private static final Refused FULL = new Refused(Nets::full);

    private QuestionBoundaryTests() {
    }

    public static void main(String[] args) {
        Check.sentence(6, "`what`: 0: the stations; 1: the finders;", QuestionBoundaryTests::numbersOfAFullNet);
        Check.sentence(6, "11: the sondes in all stocks", QuestionBoundaryTests::sondesOnTheWayAreInNoStock);
        Check.sentence(6,
                "6: the sondes that were lost so far; 7: those that came back to a stock so far; 8: those that "
                + "were scrapped so far", QuestionBoundaryTests::lostCameScrapped);
        Check.sentence(6, "Throws `IllegalArgumentException` if what is not 0 to 11",
                QuestionBoundaryTests::aboutRange);

        Check.sentence(7, "1: its hours, bit h set for the hour h", QuestionBoundaryTests::everyHourAlone);
        Check.sentence(7, "4: the sondes of its stock;", QuestionBoundaryTests::sondesOfAllKinds);
        Check.sentence(7, "0: nothing; 1: release; 2: a gap by gas; 3: a gap by sondes",
                QuestionBoundaryTests::whatItWouldDo);
        Check.sentence(7, "7: what it would do if this watch went by now (with what arrives in it)",
                QuestionBoundaryTests::withWhatArrives);
        Check.sentence(7, "Throws `IndexOutOfBoundsException` if there is no such station",
                QuestionBoundaryTests::noSuchStation);
        Check.sentence(7, "Throws `IllegalArgumentException` if what is not 0 to 7",
                QuestionBoundaryTests::stationRange);
        Check.sentence(7, "If several exceptions apply to a call, the one that its description names first is thrown.",
                QuestionBoundaryTests::stationBeforeRange);

        Check.sentence(8, "`flights`: 0 to 4", QuestionBoundaryTests::everyCountOfFlights);
        Check.sentence(8, "Throws `IndexOutOfBoundsException` if there is no such station",
                QuestionBoundaryTests::noStockOfNoStation);
        Check.sentence(8, "Throws `IllegalArgumentException` if flights is out of range",
                QuestionBoundaryTests::flightsRange);
        Check.sentence(8, "If several exceptions apply to a call, the one that its description names first is thrown.",
                QuestionBoundaryTests::stationBeforeFlights);

        Check.sentence(9, "3: what the finder found so far (what was scrapped then, too)",
                QuestionBoundaryTests::foundAndScrapped);
        Check.sentence(9, "4: the station to which the finder would send now, NONE without stations",
                QuestionBoundaryTests::wouldSendTo);
        Check.sentence(9, "Throws `IndexOutOfBoundsException` if there is no such finder",
                QuestionBoundaryTests::noSuchFinder);
        Check.sentence(9, "Throws `IllegalArgumentException` if what is not 0 to 4",
                QuestionBoundaryTests::finderRange);
        Check.sentence(9, "If several exceptions apply to a call, the one that its description names first is thrown.",
                QuestionBoundaryTests::finderBeforeRange);

        Check.sentence(10, "of several the one that was released first", QuestionBoundaryTests::arriveTogether);
        Check.sentence(10, "0: the watch in which it arrives; 1: its station; 2: the flights that it made",
                QuestionBoundaryTests::allThatCanBeOnTheWay);
        Check.sentence(10, "Returns that number; NONE if there are not so many.",
                QuestionBoundaryTests::notSoManyBacks);
        Check.sentence(10, "Throws `IllegalArgumentException` if k is negative, or what is not 0 to 2",
                QuestionBoundaryTests::backRange);

        Check.sentence(11, "`k`: which one, from 0: the latest one first", QuestionBoundaryTests::latestFirst);
        Check.sentence(11, "0: its watch; 1: its station; 2: its reason", QuestionBoundaryTests::twelveDifferentGaps);
        Check.sentence(11, "Returns that number; NONE if there are not so many, or it is not remembered any more.",
                QuestionBoundaryTests::twelveGapsAreRemembered);
        Check.sentence(11, "The latest 12 gaps are remembered", QuestionBoundaryTests::gapsThatAreTakenBack);
        Check.sentence(11, "Throws `IllegalArgumentException` if k is negative, or what is not 0 to 2",
                QuestionBoundaryTests::gapRange);

        Check.sentence(12, "`hour`: 0 to 3", QuestionBoundaryTests::everyWind);
        Check.sentence(12, "Returns 100 and the wind.", QuestionBoundaryTests::strongestWinds);
        Check.sentence(12, "Throws `IllegalArgumentException` if hour is out of range",
                QuestionBoundaryTests::windOfRange);

        Check.sentence(13, "`what`: 0 to 4", QuestionBoundaryTests::everySetting);
        Check.sentence(13, "Throws `IllegalArgumentException` if what is out of range",
                QuestionBoundaryTests::settingRange);
        Check.end("QuestionBoundaryTests");
    }

    // ---- 6: about

    private static void numbersOfAFullNet() {
        SondeStations x = Nets.full();
        Check.is("about(0)", 5, () -> x.about(0));
        Check.is("about(1)", 6, () -> x.about(1));
        Check.is("about(2)", 40, () -> x.about(2));
        Check.is("about(10)", 8, () -> x.about(10));
        for (int what = 0; what < 12; what++) {
            int k = what;
            FULL.quiet("about(" + what + ")", y -> y.about(k));
            NEW.quiet("about(" + what + ")", y -> y.about(k));
        }
    }

    private static void sondesOnTheWayAreInNoStock() {
        SondeStations x = Nets.one(9, 1);
        x.addStation(60, 0, 1, 0, 99);
        x.addStation(61, 0, 1, 0, 99);
        x.addFinder(50, 0, 9);
        x.deliver(0, 0, 99);
        Check.is("about(11)", 199, () -> x.about(11));
        x.run(1);
        Check.is("about(11) behind the release", 198, () -> x.about(11));
        Check.is("about(9)", 1, () -> x.about(9));
        x.run(3);
        Check.is("about(11) before the delivery", 198, () -> x.about(11));
        x.change(0, 0, 1);
        x.run(1);
        Check.is("about(11) behind the delivery", 297, () -> x.about(11));
        x.run(4);
        Check.is("about(9) before it arrives", 1, () -> x.about(9));
        x.run(1);
        Check.is("about(9) behind that", 0, () -> x.about(9));
        Check.is("about(11) in the end", 298, () -> x.about(11));
    }

    /** At hour 0 the sonde is found, at hour 1 it is lost. */
    private static void lostCameScrapped() {
        SondeStations x = Nets.one(99, 2);
        x.addFinder(50, 0, 1);
        x.wind(1, 1);
        x.change(0, 1, 1);
        x.set(1, 2);
        x.run(4);
        numbers(x, 0, 1, 0);
        x.run(1);
        // the one that made a flight goes up first, and is scrapped
        numbers(x, 0, 1, 1);
        x.change(0, 2, 1);
        x.run(1);
        numbers(x, 1, 1, 1);
        Check.is("about(11)", 0, () -> x.about(11));
        x.run(4);
        numbers(x, 1, 1, 1);
    }

    private static void numbers(SondeStations x, int lost, int came, int scrapped) {
        Check.is("about(6)", lost, () -> x.about(6));
        Check.is("about(7)", came, () -> x.about(7));
        Check.is("about(8)", scrapped, () -> x.about(8));
    }

    private static void aboutRange() {
        for (int what : new int[] {-1, 12, -12, 255, 256, Integer.MIN_VALUE, Integer.MAX_VALUE}) {
            NEW.argument("about(" + what + ")", x -> x.about(what));
            ROOMY.argument("about(" + what + ")", x -> x.about(what));
            FULL.argument("about(" + what + ")", x -> x.about(what));
        }
    }

    // ---- 7: station

    private static void everyHourAlone() {
        for (int hours = 0; hours <= 15; hours++) {
            int bits = hours;
            SondeStations x = Nets.one(99, 99);
            x.change(0, hours, 1);
            Check.is("station(0, 1)", hours, () -> x.station(0, 1));
            for (int watch = 0; watch < 9; watch++) {
                int due = (bits >> watch % 4) % 2;
                Check.is("station(0, 7) with hours " + hours + " in watch " + watch, due, () -> x.station(0, 7));
                Check.is("run(1)", due, () -> x.run(1));
            }
        }
    }

    private static void sondesOfAllKinds() {
        for (int there = 0; there < 5; there++) {
            SondeStations x = Nets.oneOfEachKindAt(there);
            for (int s = 0; s < 5; s++) {
                int asked = s;
                int due = s == there ? 5 : 0;
                Check.is("all lie at " + there + ", station(" + s + ", 4)", due, () -> x.station(asked, 4));
                for (int flights = 0; flights < 5; flights++) {
                    int f = flights;
                    Check.is("stock(" + s + ", " + flights + ")", due / 5, () -> x.stock(asked, f));
                }
            }
            Check.is("about(11)", 5, () -> x.about(11));
            long five = 80050L + 1000L * there;
            Check.is("a script finds five", -1, () -> x.runScript(1, five));
            Check.is("coming(60, 3)", 5, () -> x.coming(60, 3));
        }
    }

    /** Size, gas, sondes, hours, and what is done in watch 0. */
    private static final int[][] PLANS = {{1, 1, 1, 1, 1}, {1, 0, 1, 1, 2}, {1, 1, 0, 1, 3}, {1, 0, 0, 1, 2},
        {5, 5, 1, 1, 1}, {5, 4, 1, 1, 2}, {5, 6, 1, 1, 1}, {5, 5, 0, 1, 3}, {5, 4, 0, 1, 2}, {3, 3, 99, 15, 1},
        {3, 2, 99, 15, 2}, {5, 999, 99, 14, 0}, {5, 0, 0, 14, 0}, {5, 0, 0, 0, 0}, {1, 999, 99, 0, 0}};

    private static void whatItWouldDo() {
        for (int[] p : PLANS) {
            SondeStations x = new SondeStations();
            x.addStation(7, p[3], p[0], p[1], p[2]);
            String what = "of size, gas, sondes, hours " + p[0] + ", " + p[1] + ", " + p[2] + ", " + p[3];
            Check.is("station(0, 7) " + what, p[4], () -> x.station(0, 7));
            x.run(1);
            Check.is("releases " + what, p[4] == 1 ? 1 : 0, () -> x.station(0, 5));
            Check.is("gaps " + what, p[4] > 1 ? 1 : 0, () -> x.station(0, 6));
            Check.is("reason " + what, p[4] > 1 ? p[4] - 1 : -1, () -> x.gap(0, 2));
        }
    }

    private static void withWhatArrives() {
        int[][] orders = {{2, 1, 1}, {1, 1, 2}, {2, 0, 3}, {0, 1, 2}, {3, 0, 3}, {999, 99, 1}};
        for (int[] order : orders) {
            SondeStations x = new SondeStations();
            x.addStation(7, 14, 2, 0, 0);
            x.set(0, 2);
            x.deliver(0, order[0], order[1]);
            String what = "with a delivery of " + order[0] + " and " + order[1];
            x.run(1);
            Check.is("station(0, 7) before it, " + what, 2, () -> x.station(0, 7));
            x.run(1);
            Check.is("station(0, 7) " + what, order[2], () -> x.station(0, 7));
            Check.is("the gas now " + what, 0, () -> x.station(0, 3));
            Check.is("the sondes now " + what, 0, () -> x.station(0, 4));
            Check.is("on the way " + what, 1, () -> x.about(10));
        }
        SondeStations y = Nets.one(9, 1);
        y.addFinder(50, 0, 2);
        y.run(1);
        Check.is("the sonde is not there", 3, () -> y.station(0, 7));
        y.run(1);
        Check.is("the sonde comes", 1, () -> y.station(0, 7));
        Check.is("the reward is not paid by asking", 0, () -> y.about(3));
    }

    private static void noSuchStation() {
        NEW.stations("station(s, 0)", 0, (x, a) -> x.station(a[0], a[1]), 0);
        ROOMY.stations("station(s, 0)", 2, (x, a) -> x.station(a[0], a[1]), 0);
        FULL.stations("station(s, 7)", 5, (x, a) -> x.station(a[0], a[1]), 7);
        for (int what = 0; what < 8; what++) {
            int k = what;
            FULL.quiet("station(4, " + what + ")", x -> x.station(4, k));
        }
    }

    private static void stationRange() {
        for (int what : new int[] {-1, 8, 65536, Integer.MIN_VALUE, Integer.MAX_VALUE}) {
            ROOMY.argument("station(1, " + what + ")", x -> x.station(1, what));
            FULL.argument("station(4, " + what + ")", x -> x.station(4, what));
        }
    }

    private static void stationBeforeRange() {
        NEW.stations("station(s, 8)", 0, (x, a) -> x.station(a[0], a[1]), 8);
        FULL.stations("station(s, -1)", 5, (x, a) -> x.station(a[0], a[1]), -1);
    }

    // ---- 8: stock

    private static void everyCountOfFlights() {
        for (int flights = 0; flights <= 5; flights++) {
            SondeStations x = Nets.one(99, 1);
            x.addFinder(50, 0, 1);
            x.set(1, 5);
            if (flights > 0) {
                x.run(flights);
            }
            x.change(0, 0, 1);
            x.run(1);
            for (int k = 0; k <= 4; k++) {
                int asked = k;
                int due = k == flights ? 1 : 0;
                Check.is("stock(0, " + k + ") behind " + flights + " flights", due, () -> x.stock(0, asked));
            }
            Check.is("scrapped behind " + flights + " flights", flights / 5, () -> x.about(8));
        }
        Check.is("stock(1, 0)", 99, () -> two().stock(1, 0));
        Check.is("stock(0, 0)", 0, () -> two().stock(0, 0));
    }

    private static SondeStations two() {
        SondeStations x = Nets.one(0, 0);
        x.addStation(50, 0, 1, 0, 99);
        return x;
    }

    private static void noStockOfNoStation() {
        NEW.stations("stock(s, 0)", 0, (x, a) -> x.stock(a[0], a[1]), 0);
        ROOMY.stations("stock(s, 0)", 2, (x, a) -> x.stock(a[0], a[1]), 0);
        FULL.stations("stock(s, 4)", 5, (x, a) -> x.stock(a[0], a[1]), 4);
        FULL.quiet("stock(4, 0)", x -> x.stock(4, 0));
    }

    private static void flightsRange() {
        ROOMY.range("stock(1, flights), flights", new int[] {1, 0}, 1, 0, 4, (x, a) -> x.stock(a[0], a[1]));
        FULL.range("stock(4, flights), flights", new int[] {4, 0}, 1, 0, 4, (x, a) -> x.stock(a[0], a[1]));
    }

    private static void stationBeforeFlights() {
        NEW.stations("stock(s, 5)", 0, (x, a) -> x.stock(a[0], a[1]), 5);
        FULL.stations("stock(s, -1)", 5, (x, a) -> x.stock(a[0], a[1]), -1);
    }

    // ---- 9: finder

    private static void foundAndScrapped() {
        SondeStations x = Nets.one(99, 9);
        x.addFinder(50, 0, 30);
        x.set(1, 1);
        x.run(2);
        Check.is("scrapped", 2, () -> x.about(8));
        Check.is("finder(0, 3)", 2, () -> x.finder(0, 3));
        x.set(1, 2);
        x.run(1);
        Check.is("one more, sent back", 3, () -> x.finder(0, 3));
        x.wind(3, 1);
        x.run(1);
        Check.is("not the one that is lost", 3, () -> x.finder(0, 3));
    }

    private static void wouldSendTo() {
        SondeStations x = new SondeStations();
        x.addFinder(0, 0, 1);
        x.addFinder(99, 0, 1);
        x.addFinder(50, 0, 1);
        sendTo(x, -1, -1, -1);
        x.addStation(99, 0, 1, 0, 0);
        sendTo(x, 0, 0, 0);
        x.addStation(1, 0, 1, 0, 0);
        sendTo(x, 1, 0, 0);
        x.addStation(49, 0, 1, 0, 0);
        x.addStation(51, 0, 1, 0, 0);
        sendTo(x, 1, 0, 2);
        x.addStation(0, 0, 1, 0, 0);
        sendTo(x, 4, 0, 2);
    }

    private static void sendTo(SondeStations x, int... due) {
        for (int f = 0; f < due.length; f++) {
            int k = f;
            Check.is("finder(" + f + ", 4)", due[f], () -> x.finder(k, 4));
        }
    }

    private static void noSuchFinder() {
        for (int f : new int[] {-1, 6, Integer.MIN_VALUE, Integer.MAX_VALUE}) {
            NEW.index("finder(" + f + ", 0)", x -> x.finder(f, 0));
            ROOMY.index("finder(" + f + ", 0)", x -> x.finder(f, 0));
            FULL.index("finder(" + f + ", 4)", x -> x.finder(f, 4));
        }
        NEW.index("finder(0, 0)", x -> x.finder(0, 0));
        ROOMY.index("finder(2, 0)", x -> x.finder(2, 0));
        for (int what = 0; what < 5; what++) {
            int k = what;
            ROOMY.quiet("finder(1, " + what + ")", x -> x.finder(1, k));
            FULL.quiet("finder(5, " + what + ")", x -> x.finder(5, k));
        }
    }

    private static void finderRange() {
        for (int what : new int[] {-1, 5, 65536, Integer.MIN_VALUE, Integer.MAX_VALUE}) {
            ROOMY.argument("finder(1, " + what + ")", x -> x.finder(1, what));
            FULL.argument("finder(5, " + what + ")", x -> x.finder(5, what));
        }
    }

    private static void finderBeforeRange() {
        NEW.index("finder(0, 5)", x -> x.finder(0, 5));
        FULL.index("finder(6, -1)", x -> x.finder(6, -1));
        FULL.index("finder(-1, 5)", x -> x.finder(-1, 5));
    }

    // ---- 10: back

    /** Station 1 releases in watch 0 and station 0 in watch 1; both sondes arrive in watch 3. */
    private static void arriveTogether() {
        SondeStations x = new SondeStations();
        x.addStation(10, 2, 1, 99, 1);
        x.addStation(50, 1, 1, 99, 1);
        x.addFinder(10, 0, 2);
        x.addFinder(50, 0, 3);
        x.run(2);
        back(x, 0, 3, 1, 1);
        back(x, 1, 3, 0, 1);
        back(x, 2, -1, -1, -1);
        SondeStations y = new SondeStations();
        y.addStation(10, 1, 1, 99, 1);
        y.addStation(50, 1, 1, 99, 1);
        y.addStation(30, 1, 1, 99, 1);
        y.addFinder(10, 0, 3);
        y.addFinder(50, 0, 3);
        y.addFinder(30, 0, 2);
        y.run(1);
        back(y, 0, 2, 2, 1);
        back(y, 1, 3, 0, 1);
        back(y, 2, 3, 1, 1);
    }

    private static void allThatCanBeOnTheWay() {
        SondeStations x = new SondeStations();
        for (int s = 0; s < 5; s++) {
            x.addStation(10 * s, 15, 1, 999, 99);
            x.addFinder(10 * s, 0, 30);
        }
        x.run(30);
        Check.is("about(9)", 150, () -> x.about(9));
        for (int k = 0; k < 150; k++) {
            back(x, k, 30 + k / 5, k % 5, 1);
        }
        back(x, 150, -1, -1, -1);
        x.run(1);
        Check.is("about(9), five came and five went up", 150, () -> x.about(9));
        Check.is("about(7)", 5, () -> x.about(7));
        back(x, 149, 60, 4, 2);
        back(x, 150, -1, -1, -1);
    }

    private static void back(SondeStations x, int k, int... due) {
        for (int what = 0; what < 3; what++) {
            int asked = what;
            Check.is("back(" + k + ", " + what + ")", due[what], () -> x.back(k, asked));
        }
    }

    private static void notSoManyBacks() {
        SondeStations x = Nets.one(99, 9);
        x.addFinder(50, 0, 9);
        for (int many = 0; many <= 3; many++) {
            if (many > 0) {
                back(x, many - 1, 8 + many, 0, 1);
            }
            back(x, many, -1, -1, -1);
            back(x, many + 1, -1, -1, -1);
            back(x, 150, -1, -1, -1);
            back(x, Integer.MAX_VALUE, -1, -1, -1);
            x.run(1);
        }
        x.change(0, 0, 1);
        x.run(40);
        back(x, 0, -1, -1, -1);
    }

    private static void backRange() {
        for (int v : new int[] {-1, Integer.MIN_VALUE}) {
            NEW.argument("back(" + v + ", 0)", x -> x.back(v, 0));
            FULL.argument("back(" + v + ", 2)", x -> x.back(v, 2));
        }
        for (int what : new int[] {-1, 3, Integer.MIN_VALUE, Integer.MAX_VALUE}) {
            NEW.argument("back(0, " + what + ")", x -> x.back(0, what));
            FULL.argument("back(0, " + what + ")", x -> x.back(0, what));
            FULL.argument("back(9999, " + what + ")", x -> x.back(9999, what));
        }
        FULL.quiet("back(0, 0)", x -> x.back(0, 0));
        FULL.quiet("back(9999, 2)", x -> x.back(9999, 2));
    }

    // ---- 11: gap

    private static void latestFirst() {
        SondeStations x = new SondeStations();
        x.addStation(1, 1, 2, 1, 1);
        x.addStation(2, 2, 2, 2, 0);
        gap(x, 0, -1, -1, -1);
        x.run(1);
        gap(x, 0, 0, 0, 1);
        x.run(1);
        gap(x, 0, 1, 1, 2);
        gap(x, 1, 0, 0, 1);
        x.run(3);
        gap(x, 0, 4, 0, 1);
        gap(x, 1, 1, 1, 2);
        gap(x, 2, 0, 0, 1);
        gap(x, 3, -1, -1, -1);
    }

    private static void gap(SondeStations x, int k, int... due) {
        for (int what = 0; what < 3; what++) {
            int asked = what;
            Check.is("gap(" + k + ", " + what + ")", due[what], () -> x.gap(k, asked));
        }
    }

    /** In each watch a gap of each of five stations, by gas of the even ones and by sondes of the odd ones. */
    private static void twelveDifferentGaps() {
        SondeStations x = new SondeStations();
        for (int s = 0; s < 5; s++) {
            x.addStation(s, 15, 1, s % 2, 0);
        }
        x.run(5);
        for (int k = 0; k < 12; k++) {
            int number = 24 - k;
            gap(x, k, number / 5, number % 5, 1 + number % 5 % 2);
        }
        gap(x, 12, -1, -1, -1);
        Check.is("about(5)", 25, () -> x.about(5));
    }

    private static void twelveGapsAreRemembered() {
        for (int gaps = 0; gaps <= 40; gaps++) {
            SondeStations x = Nets.one(0, 0);
            if (gaps > 0) {
                x.run(gaps);
            }
            int remembered = Math.min(12, gaps);
            for (int k = 0; k < remembered; k++) {
                gap(x, k, gaps - 1 - k, 0, 1);
            }
            for (int k : new int[] {remembered, remembered + 1, 11 + gaps, 12, 13, 40, 65536, Integer.MAX_VALUE}) {
                if (k >= remembered) {
                    gap(x, k, -1, -1, -1);
                }
            }
        }
    }

    private static void gapsThatAreTakenBack() {
        SondeStations x = Nets.one(0, 0);
        x.run(10);
        x.save(0);
        x.run(10);
        gap(x, 11, 8, 0, 1);
        x.undo();
        gap(x, 0, 9, 0, 1);
        gap(x, 9, 0, 0, 1);
        gap(x, 10, -1, -1, -1);
        x.run(3);
        gap(x, 0, 12, 0, 1);
        gap(x, 11, 1, 0, 1);
        gap(x, 12, -1, -1, -1);
        x.run(40);
        x.restore(0);
        gap(x, 9, 0, 0, 1);
        gap(x, 10, -1, -1, -1);
        Check.is("about(5)", 10, () -> x.about(5));
    }

    private static void gapRange() {
        for (int k : new int[] {-1, Integer.MIN_VALUE}) {
            NEW.argument("gap(" + k + ", 0)", x -> x.gap(k, 0));
            FULL.argument("gap(" + k + ", 2)", x -> x.gap(k, 2));
        }
        for (int what : new int[] {-1, 3, Integer.MIN_VALUE, Integer.MAX_VALUE}) {
            NEW.argument("gap(0, " + what + ")", x -> x.gap(0, what));
            FULL.argument("gap(0, " + what + ")", x -> x.gap(0, what));
            FULL.argument("gap(9999, " + what + ")", x -> x.gap(9999, what));
        }
        FULL.quiet("gap(0, 0)", x -> x.gap(0, 0));
        FULL.quiet("gap(12, 2)", x -> x.gap(12, 2));
    }

    // ---- 12: windOf

    private static void everyWind() {
        SondeStations x = new SondeStations();
        for (int hour = 0; hour < 4; hour++) {
            x.wind(hour, 3 * hour - 5);
        }
        for (int hour = 0; hour < 4; hour++) {
            int h = hour;
            Check.is("windOf(" + hour + ")", 95 + 3 * hour, () -> x.windOf(h));
        }
    }

    private static void strongestWinds() {
        for (int v : new int[] {-20, -19, -1, 0, 1, 19, 20}) {
            SondeStations x = new SondeStations();
            x.wind(3, v);
            Check.is("windOf(3) of " + v, 100 + v, () -> x.windOf(3));
        }
    }

    private static void windOfRange() {
        NEW.range("windOf(hour), hour", new int[] {0}, 0, 0, 3, (x, a) -> x.windOf(a[0]));
        FULL.range("windOf(hour), hour", new int[] {0}, 0, 0, 3, (x, a) -> x.windOf(a[0]));
        FULL.quiet("windOf(3)", x -> x.windOf(3));
    }

    // ---- 13: setting

    private static void everySetting() {
        int[] highest = {30, 5, 99, 99, 99};
        int[] lowest = {1, 1, 0, 0, 0};
        SondeStations x = new SondeStations();
        for (int what = 0; what < 5; what++) {
            int k = what;
            x.set(what, highest[what]);
            Check.is("setting(" + what + "), its highest", highest[what], () -> x.setting(k));
        }
        for (int what = 0; what < 5; what++) {
            int k = what;
            x.set(what, lowest[what]);
            Check.is("setting(" + what + "), its lowest", lowest[what], () -> x.setting(k));
        }
    }

    private static void settingRange() {
        NEW.range("setting(what), what", new int[] {0}, 0, 0, 4, (x, a) -> x.setting(a[0]));
        FULL.range("setting(what), what", new int[] {0}, 0, 0, 4, (x, a) -> x.setting(a[0]));
        FULL.quiet("setting(4)", x -> x.setting(4));
    }
}

import java.lang.reflect.Constructor;
import java.lang.reflect.Field;
import java.lang.reflect.Method;
import java.lang.reflect.Modifier;
import java.util.Set;
import java.util.TreeSet;

/** One test for each promise of the document, its answers worked out by hand. */
public final class PromiseTests {
    private PromiseTests() {
    }

    public static void main(String[] args) {
        face();
        promise1NewObject();
        promise2Append();
        promise3ClearText();
        promise4ErrorPosition();
        promise5Load();
        promise6About();
        promise7Station();
        promise8Stock();
        promise9Finder();
        promise10Back();
        promise11Gap();
        promise12WindOf();
        promise13Setting();
        promise14AddStation();
        promise15AddFinder();
        promise16Wind();
        promise17Change();
        promise18Deliver();
        promise19Move();
        promise20Run();
        promise21Set();
        promise22Undo();
        promise23Landing();
        promise24Finds();
        promise25Coming();
        promise26FirstGap();
        promise27Lacks();
        promise28IfDelivered();
        promise29RunScript();
        promise30Simulate();
        promise31Save();
        promise32Restore();
        Check.end("PromiseTests");
    }

    private static void abouts(String when, SondeStations x, int... due) {
        for (int what = 0; what < due.length; what++) {
            int k = what;
            Check.is(when + " about(" + what + ")", due[what], () -> x.about(k));
        }
    }

    private static void face() {
        Set<String> due = new TreeSet<>(Set.of("append(int)", "clearText()", "errorPosition()", "load()", "about(int)",
                "station(int,int)", "stock(int,int)", "finder(int,int)", "back(int,int)"));
        due.addAll(Set.of("gap(int,int)", "windOf(int)", "setting(int)", "addStation(int,int,int,int,int)",
                "addFinder(int,int,int)", "wind(int,int)", "change(int,int,int)", "deliver(int,int,int)"));
        due.addAll(Set.of("move(int,int)", "run(int)", "set(int,int)", "undo()", "landing(int,int)", "finds(int)",
                "coming(int,int)", "firstGap()", "lacks(int,int)", "ifDelivered(int,int,int,int)"));
        due.addAll(Set.of("runScript(int,long)", "simulate(long,int)", "save(int)", "restore(int)"));
        Set<String> got = new TreeSet<>();
        for (Method method : SondeStations.class.getDeclaredMethods()) {
            if (!Modifier.isPrivate(method.getModifiers()) && !method.isSynthetic()) {
                StringBuilder types = new StringBuilder();
                for (Class<?> type : method.getParameterTypes()) {
                    types.append(types.length() == 0 ? "" : ",").append(type.getSimpleName());
                }
                got.add(method.getName() + "(" + types + ")");
                Check.same(method + " is public", "" + Modifier.isPublic(method.getModifiers()), "true");
                Check.same(method + " returns", method.getReturnType().getSimpleName(), "int");
            }
        }
        Check.same("the methods", got.toString(), due.toString());
        for (Field field : SondeStations.class.getDeclaredFields()) {
            boolean open = !Modifier.isPrivate(field.getModifiers());
            Check.same("open field " + field, "" + open, "" + field.getName().equals("NONE"));
        }
        Constructor<?>[] constructors = SondeStations.class.getConstructors();
        Check.same("the constructors", "" + constructors.length, "1");
        Check.same("final", "" + Modifier.isFinal(SondeStations.class.getModifiers()), "true");
        Check.is("NONE", -1, () -> SondeStations.NONE);
    }

    private static void promise1NewObject() {
        SondeStations x = new SondeStations();
        abouts("1", x, 0, 0, 0, 0, 0, 0, 0, 0, 0, 0, 0, 0);
        Check.index("1 station(0, 0)", () -> x.station(0, 0));
        Check.index("1 finder(0, 0)", () -> x.finder(0, 0));
        Check.is("1 windOf(0)", 100, () -> x.windOf(0));
        Check.is("1 setting(0)", 4, () -> x.setting(0));
        Check.is("1 setting(1)", 3, () -> x.setting(1));
        Check.is("1 setting(2)", 2, () -> x.setting(2));
        Check.is("1 setting(3)", 20, () -> x.setting(3));
        Check.is("1 setting(4)", 5, () -> x.setting(4));
        Check.state("1 undo()", x::undo);
        Check.state("1 restore(0)", () -> x.restore(0));
        Check.is("1 clearText()", 0, x::clearText);
        Check.is("1 run(3)", 0, () -> x.run(3));
        Check.is("1 about(2) behind run(3)", 3, () -> x.about(2));
    }

    private static void promise2Append() {
        SondeStations x = new SondeStations();
        Check.is("2 append(0)", 1, () -> x.append(0));
        Check.is("2 append(255)", 2, () -> x.append(255));
        Check.argument("2 append(-1)", () -> x.append(-1));
        Check.argument("2 append(256)", () -> x.append(256));
        for (int k = 3; k <= 120; k++) {
            Check.is("2 append('N')", k, () -> x.append('N'));
        }
        Check.state("2 the 121st append", () -> x.append('N'));
        Check.argument("2 the range comes first", () -> x.append(256));
        Check.is("2 clearText()", 120, x::clearText);
        Check.is("2 append('N') again", 1, () -> x.append('N'));
        Check.is("2 errorPosition()", -1, x::errorPosition);
    }

    private static void promise3ClearText() {
        SondeStations x = new SondeStations();
        Nets.type(x, "Nr1");
        Check.is("3 clearText()", 3, x::clearText);
        Check.is("3 clearText() again", 0, x::clearText);
        Check.is("3 errorPosition()", 0, x::errorPosition);
        x.append('N');
        Check.is("3 errorPosition() of N", -1, x::errorPosition);
    }

    private static void promise4ErrorPosition() {
        String[] nets = {"N", "Ns20152305", "Nf002030", "Nf992001", "Nw3-20", "Nw0+00", "Nd4999", "Nd0000", "Nr9",
            "Nr1r2", "Nw1+19f001910d0010r5", "Ns00001000", "Ns99155999", "Ns10091000"};
        for (String good : nets) {
            error(good, SondeStations.NONE);
        }
        error("", 0);
        error("n", 0);
        error(" N", 0);
        error("NN", 1);
        error("N ", 1);
        error("Nx", 1);
        error("Ns", 2);
        error("Nsa", 2);
        error("Ns2", 3);
        error("Ns2-", 3);
        error("Ns202", 4);
        error("Ns2016", 5);
        error("Ns201", 5);
        error("Ns20150", 6);
        error("Ns20156", 6);
        error("Ns20155", 7);
        error("Ns20155a", 7);
        error("Ns201551r", 8);
        error("Ns2015510", 9);
        error("Ns2015510:", 9);
        error("Ns2015510/", 9);
        error("Nf003", 4);
        error("Nf0021", 5);
        error("Nf0020", 6);
        error("Nf00204", 6);
        error("Nf002000", 7);
        error("Nf002031", 7);
        error("Nf00203", 7);
        error("Nw4", 2);
        error("Nw0", 3);
        error("Nw0*", 3);
        error("Nw03", 3);
        error("Nw0+", 4);
        error("Nw0+3", 4);
        error("Nw0-21", 5);
        error("Nd5", 2);
        error("Nd4", 3);
        error("Nd412", 5);
        error("Nr0", 2);
        error("Nr", 2);
        error("Nr11", 3);
        error("Nr1R1", 3);
    }

    private static void error(String text, int due) {
        SondeStations x = new SondeStations();
        Nets.type(x, text);
        Check.is("4 errorPosition() of \"" + text + "\"", due, x::errorPosition);
        if (due == SondeStations.NONE) {
            Check.same("5 load() of \"" + text + "\"", "" + Check.answer(x::load).startsWith("throws"), "false");
        } else {
            Check.state("5 load() of \"" + text + "\"", x::load);
        }
    }

    private static void promise5Load() {
        SondeStations x = Nets.small();
        x.run(3);
        x.set(4, 77);
        x.wind(2, 20);
        x.save(0);
        x.save(1);
        Nets.type(x, "Nr0");
        Check.state("5 load() of no net", x::load);
        Check.is("5 a refused load changes nothing", 3, () -> x.about(2));
        Check.is("5 and keeps what is saved", 3, () -> x.restore(1));
        x.run(1);
        // left out: a delivery before there are stations, an empty delivery. The three sondes are lost, there is a gap
        // by sondes in watch 3, and the sonde that comes in watch 4 is lost too.
        Nets.type(x, "Nd0011s45153123f400130w0-07w3+20d0000d0121r5d0011");
        Check.is("5 load()", 2, x::load);
        abouts("5", x, 1, 1, 5, 44 + 22, 4, 1, 4, 0, 0, 0, 1, 0);
        Check.is("5 its place", 45, () -> x.station(0, 0));
        Check.is("5 its hours", 15, () -> x.station(0, 1));
        Check.is("5 its size", 3, () -> x.station(0, 2));
        Check.is("5 its gas", 12 - 3 * 3 + 12 - 3, () -> x.station(0, 3));
        Check.is("5 the finder's place", 40, () -> x.finder(0, 0));
        Check.is("5 the finder's reach", 1, () -> x.finder(0, 1));
        Check.is("5 the finder's delay", 30, () -> x.finder(0, 2));
        Check.is("5 windOf(0)", 93, () -> x.windOf(0));
        Check.is("5 windOf(2)", 100, () -> x.windOf(2));
        Check.is("5 windOf(3)", 120, () -> x.windOf(3));
        Check.is("5 setting(4)", 5, () -> x.setting(4));
        Check.state("5 undo()", x::undo);
        Check.state("5 restore(0)", () -> x.restore(0));
        Check.state("5 restore(1)", () -> x.restore(1));
        Check.is("5 the text stays", 49, x::clearText);
        Nets.type(x, "Ns00111000s00111000");
        Check.is("5 load() from the start", 0, x::load);
        Check.is("5 stations", 2, () -> x.about(0));
        Nets.type(x, "Ns00011000s00011000s00011000s00011000s00011000s00011000");
        Check.is("5 a sixth station is left out", 1, x::load);
        Nets.type(x, "Nf000001f000001f000001f000001f000001f000001f000001f000001");
        Check.is("5 a seventh finder is left out", 2, x::load);
        Nets.type(x, "Ns00001000d0010d0010d0010d0010d0010d0010d0010d0010d0010d1010");
        Check.is("5 a ninth delivery is left out", 2, x::load);
        Nets.type(x, "N" + "w0+05".repeat(22) + "s00001000");
        Check.state("5 the text is full", () -> x.append('r'));
        Check.is("5 load() of a full text", 0, x::load);
        Check.is("5 its first command", 105, () -> x.windOf(0));
        Check.is("5 its last command", 1, () -> x.about(0));
    }

    private static void promise6About() {
        SondeStations x = Nets.small();
        abouts("6 new", x, 1, 1, 0, 0, 0, 0, 0, 0, 0, 0, 0, 2);
        x.run(1);
        abouts("6 behind watch 0", x, 1, 1, 1, 0, 1, 0, 0, 0, 0, 1, 0, 1);
        x.run(2);
        abouts("6 behind watch 2", x, 1, 1, 3, 5, 3, 0, 0, 1, 0, 2, 0, 0);
        x.run(4);
        abouts("6 behind watch 6", x, 1, 1, 7, 20, 5, 2, 0, 4, 1, 0, 0, 1);
        x.deliver(0, 10, 1);
        abouts("6 with a delivery", x, 1, 1, 7, 60, 5, 2, 0, 4, 1, 0, 1, 1);
        x.wind(3, 1);
        x.run(5);
        // gaps in 7, 8, 9, 10; the delivery comes in 11, where the sonde with 2 flights lands at 21 and is lost
        abouts("6 behind watch 11", x, 1, 1, 12, 60, 6, 6, 1, 4, 1, 0, 0, 1);
        Check.argument("6 about(-1)", () -> x.about(-1));
        Check.argument("6 about(12)", () -> x.about(12));
    }

    private static void promise7Station() {
        SondeStations x = Nets.small();
        x.addStation(90, 6, 5, 999, 0);
        int[] due = {90, 6, 5, 999, 0, 0, 0, 0};
        for (int what = 0; what < due.length; what++) {
            int k = what;
            Check.is("7 station(1, " + what + ")", due[what], () -> x.station(1, k));
        }
        Check.is("7 would release", 1, () -> x.station(0, 7));
        x.run(2);
        Check.is("7 in watch 2 one comes", 1, () -> x.station(0, 7));
        Check.is("7 and is not there yet", 0, () -> x.station(0, 4));
        Check.is("7 a gap by sondes", 3, () -> x.station(1, 7));
        Check.is("7 its gap", 1, () -> x.station(1, 6));
        Check.is("7 no gap is made by asking", 1, () -> x.about(5));
        x.run(1);
        Check.is("7 not its hour", 0, () -> x.station(1, 7));
        x.run(2);
        Check.is("7 a gap by gas", 2, () -> x.station(0, 7));
        Check.is("7 its gas", 0, () -> x.station(0, 3));
        Check.is("7 its releases", 5, () -> x.station(0, 5));
        x.set(0, 1);
        x.deliver(0, 1, 0);
        Check.is("7 the delivery is for the next watch", 2, () -> x.station(0, 7));
        x.run(1);
        Check.is("7 the delivery comes", 1, () -> x.station(0, 7));
        Check.is("7 gas before sondes", 2, () -> gasAndSondesMissing().station(0, 7));
        Check.index("7 station(2, 0)", () -> x.station(2, 0));
        Check.index("7 station(-1, 8)", () -> x.station(-1, 8));
        Check.argument("7 station(0, 8)", () -> x.station(0, 8));
        Check.argument("7 station(0, -1)", () -> x.station(0, -1));
    }

    private static SondeStations gasAndSondesMissing() {
        SondeStations x = new SondeStations();
        x.addStation(0, 1, 2, 1, 0);
        return x;
    }

    private static void promise8Stock() {
        SondeStations x = Nets.small();
        x.set(1, 5);
        Check.is("8 stock(0, 0)", 2, () -> x.stock(0, 0));
        Check.is("8 stock(0, 1)", 0, () -> x.stock(0, 1));
        x.run(5);
        x.change(0, 0, 1);
        x.run(3);
        Check.is("8 stock(0, 2)", 1, () -> x.stock(0, 2));
        Check.is("8 stock(0, 3)", 1, () -> x.stock(0, 3));
        x.deliver(0, 2, 3);
        x.run(5);
        x.change(0, 15, 1);
        Check.is("8 stock(0, 0) delivered", 3, () -> x.stock(0, 0));
        x.run(1);
        Check.is("8 the most flown one went up", 0, () -> x.stock(0, 3));
        x.change(0, 0, 1);
        x.run(3);
        Check.is("8 stock(0, 4)", 1, () -> x.stock(0, 4));
        x.change(0, 15, 1);
        x.run(1);
        Check.is("8 behind its fifth flight", 0, () -> x.stock(0, 4));
        Check.is("8 it is scrapped", 1, () -> x.about(8));
        Check.index("8 stock(1, 5)", () -> x.stock(1, 5));
        Check.argument("8 stock(0, 5)", () -> x.stock(0, 5));
        Check.argument("8 stock(0, -1)", () -> x.stock(0, -1));
    }

    private static void promise9Finder() {
        SondeStations x = new SondeStations();
        x.addFinder(50, 20, 30);
        Check.is("9 no station", -1, () -> x.finder(0, 4));
        x.addFinder(0, 0, 1);
        x.addStation(99, 0, 1, 0, 0);
        Check.is("9 as far as can be", 0, () -> x.finder(1, 4));
        x.undo();
        x.addStation(40, 1, 1, 9, 9);
        x.addStation(60, 1, 1, 9, 9);
        x.addStation(60, 0, 1, 9, 9);
        Check.is("9 the lowest of the nearest", 0, () -> x.finder(0, 4));
        x.addStation(51, 0, 1, 0, 0);
        Check.is("9 the nearest", 3, () -> x.finder(0, 4));
        x.set(1, 1);
        x.run(1);
        x.wind(0, 20);
        x.run(4);
        Check.is("9 the place", 50, () -> x.finder(0, 0));
        Check.is("9 the reach", 20, () -> x.finder(0, 1));
        Check.is("9 the delay", 30, () -> x.finder(0, 2));
        Check.is("9 found, scrapped too", 3, () -> x.finder(0, 3));
        Check.is("9 scrapped", 3, () -> x.about(8));
        Check.is("9 lost", 1, () -> x.about(6));
        Check.index("9 finder(2, 5)", () -> x.finder(2, 5));
        Check.index("9 finder(-1, 0)", () -> x.finder(-1, 0));
        Check.argument("9 finder(0, 5)", () -> x.finder(0, 5));
        Check.argument("9 finder(0, -1)", () -> x.finder(0, -1));
    }

    private static void promise10Back() {
        SondeStations x = new SondeStations();
        x.addStation(10, 3, 1, 99, 9);
        x.addStation(50, 3, 1, 99, 9);
        x.addStation(90, 3, 1, 99, 9);
        x.addFinder(10, 0, 9);
        x.addFinder(50, 0, 3);
        x.addFinder(90, 0, 9);
        x.run(1);
        x.move(0, 1);
        x.set(1, 5);
        backs(x, 0, 3, 1, 1);
        backs(x, 1, 9, 0, 1);
        backs(x, 2, 9, 2, 1);
        backs(x, 3, -1, -1, -1);
        x.run(1);
        backs(x, 1, 4, 1, 1);
        backs(x, 3, 9, 2, 1);
        backs(x, 4, 10, 0, 1);
        x.run(2);
        backs(x, 0, 4, 1, 1);
        Check.is("10 sondes on the way", 5, () -> x.about(9));
        x.addStation(49, 0, 1, 0, 0);
        backs(x, 0, 4, 1, 1);
        x.run(1);
        backs(x, 0, 7, 1, 2);
        backs(x, 1, 9, 0, 1);
        Check.is("10 a k far too high", -1, () -> x.back(Integer.MAX_VALUE, 0));
        Check.argument("10 back(-1, 0)", () -> x.back(-1, 0));
        Check.argument("10 back(0, 3)", () -> x.back(0, 3));
        Check.argument("10 back(0, -1)", () -> x.back(0, -1));
        Check.argument("10 back(99, 3)", () -> x.back(99, 3));
        fullWay();
    }

    /** All five stations release in every watch, and everything comes back behind 30 watches. */
    private static void fullWay() {
        SondeStations x = new SondeStations();
        for (int s = 0; s < 5; s++) {
            x.addStation(50, 15, 1, 999, 99);
        }
        x.addFinder(50, 0, 30);
        x.set(1, 5);
        x.run(40);
        Check.is("10 full: 150 on the way", 150, () -> x.about(9));
        Check.is("10 full: all came back", 50, () -> x.about(7));
        backs(x, 0, 40, 0, 1);
        backs(x, 144, 68, 0, 1);
        backs(x, 145, 69, 0, 2);
        backs(x, 149, 69, 0, 1);
        backs(x, 150, -1, -1, -1);
    }

    private static void backs(SondeStations x, int k, int watch, int station, int flights) {
        Check.is("10 back(" + k + ", 0)", watch, () -> x.back(k, 0));
        Check.is("10 back(" + k + ", 1)", station, () -> x.back(k, 1));
        Check.is("10 back(" + k + ", 2)", flights, () -> x.back(k, 2));
    }

    private static void promise11Gap() {
        SondeStations x = new SondeStations();
        gaps(x, 0, -1, -1, -1);
        x.addStation(10, 15, 2, 1, 1);
        x.addStation(10, 4, 2, 2, 0);
        x.run(3);
        gaps(x, 0, 2, 1, 2);
        gaps(x, 1, 2, 0, 1);
        gaps(x, 2, 1, 0, 1);
        gaps(x, 3, 0, 0, 1);
        gaps(x, 4, -1, -1, -1);
        x.run(10);
        Check.is("11 gaps so far", 16, () -> x.about(5));
        gaps(x, 0, 12, 0, 1);
        gaps(x, 2, 10, 1, 2);
        gaps(x, 11, 3, 0, 1);
        gaps(x, 12, -1, -1, -1);
        gaps(x, 15, -1, -1, -1);
        gaps(x, Integer.MAX_VALUE, -1, -1, -1);
        Check.argument("11 gap(-1, 0)", () -> x.gap(-1, 0));
        Check.argument("11 gap(0, 3)", () -> x.gap(0, 3));
        Check.argument("11 gap(0, -1)", () -> x.gap(0, -1));
        Check.argument("11 gap(99, 3)", () -> x.gap(99, 3));
    }

    private static void gaps(SondeStations x, int k, int watch, int station, int reason) {
        Check.is("11 gap(" + k + ", 0)", watch, () -> x.gap(k, 0));
        Check.is("11 gap(" + k + ", 1)", station, () -> x.gap(k, 1));
        Check.is("11 gap(" + k + ", 2)", reason, () -> x.gap(k, 2));
    }

    private static void promise12WindOf() {
        SondeStations x = new SondeStations();
        x.wind(0, -20);
        x.wind(3, 20);
        Check.is("12 windOf(0)", 80, () -> x.windOf(0));
        Check.is("12 windOf(1)", 100, () -> x.windOf(1));
        Check.is("12 windOf(2)", 100, () -> x.windOf(2));
        Check.is("12 windOf(3)", 120, () -> x.windOf(3));
        Check.argument("12 windOf(-1)", () -> x.windOf(-1));
        Check.argument("12 windOf(4)", () -> x.windOf(4));
    }

    private static void promise13Setting() {
        SondeStations x = new SondeStations();
        for (int what = 0; what < 5; what++) {
            x.set(what, what + 1);
        }
        for (int what = 0; what < 5; what++) {
            int k = what;
            Check.is("13 setting(" + what + ")", what + 1, () -> x.setting(k));
        }
        Check.argument("13 setting(-1)", () -> x.setting(-1));
        Check.argument("13 setting(5)", () -> x.setting(5));
    }

    private static void promise14AddStation() {
        SondeStations x = new SondeStations();
        Check.is("14 the first", 0, () -> x.addStation(0, 0, 1, 0, 0));
        Check.is("14 the second", 1, () -> x.addStation(99, 15, 5, 999, 99));
        int[] due = {99, 15, 5, 999, 99, 0, 0, 1};
        for (int what = 0; what < due.length; what++) {
            int k = what;
            Check.is("14 station(1, " + what + ")", due[what], () -> x.station(1, k));
        }
        Check.is("14 no flights", 99, () -> x.stock(1, 0));
        Check.is("14 nothing is paid", 0, () -> x.about(3));
        int[][] bad = {{-1, 0, 1, 0, 0}, {100, 0, 1, 0, 0}, {0, -1, 1, 0, 0}, {0, 16, 1, 0, 0}, {0, 0, 0, 0, 0},
            {0, 0, 6, 0, 0}, {0, 0, 1, -1, 0}, {0, 0, 1, 1000, 0}, {0, 0, 1, 0, -1}, {0, 0, 1, 0, 100}};
        for (int[] b : bad) {
            Check.argument("14 out of range", () -> x.addStation(b[0], b[1], b[2], b[3], b[4]));
        }
        for (int s = 2; s < 5; s++) {
            Check.is("14 the next", s, () -> x.addStation(1, 1, 1, 1, 1));
        }
        Check.state("14 a sixth", () -> x.addStation(1, 1, 1, 1, 1));
        Check.argument("14 the range comes first", () -> x.addStation(1, 1, 1, 1, 100));
        Check.is("14 five of them", 5, () -> x.about(0));
        Check.is("14 refused calls are no actions", 4, x::undo);
        x.undo();
        Check.is("14 behind undo", 3, () -> x.addStation(7, 0, 1, 0, 0));
        Check.is("14 nothing of the one before", 0, () -> x.station(3, 4));
    }

    private static void promise15AddFinder() {
        SondeStations x = new SondeStations();
        Check.is("15 the first", 0, () -> x.addFinder(0, 0, 1));
        Check.is("15 the second", 1, () -> x.addFinder(99, 20, 30));
        int[] due = {99, 20, 30, 0, -1};
        for (int what = 0; what < due.length; what++) {
            int k = what;
            Check.is("15 finder(1, " + what + ")", due[what], () -> x.finder(1, k));
        }
        int[][] bad = {{-1, 0, 1}, {100, 0, 1}, {0, -1, 1}, {0, 21, 1}, {0, 0, 0}, {0, 0, 31}};
        for (int[] b : bad) {
            Check.argument("15 out of range", () -> x.addFinder(b[0], b[1], b[2]));
        }
        for (int f = 2; f < 6; f++) {
            Check.is("15 the next", f, () -> x.addFinder(1, 1, 1));
        }
        Check.state("15 a seventh", () -> x.addFinder(1, 1, 1));
        Check.argument("15 the range comes first", () -> x.addFinder(1, 1, 31));
        Check.is("15 six of them", 6, () -> x.about(1));
        Check.is("15 refused calls are no actions", 5, x::undo);
    }

    private static void promise16Wind() {
        SondeStations x = new SondeStations();
        Check.is("16 wind(2, -20)", 100, () -> x.wind(2, -20));
        Check.is("16 wind(2, 20)", 80, () -> x.wind(2, 20));
        Check.is("16 wind(2, 0)", 120, () -> x.wind(2, 0));
        Check.argument("16 wind(-1, 0)", () -> x.wind(-1, 0));
        Check.argument("16 wind(4, 0)", () -> x.wind(4, 0));
        Check.argument("16 wind(0, -21)", () -> x.wind(0, -21));
        Check.argument("16 wind(0, 21)", () -> x.wind(0, 21));
        Check.is("16 three actions", 2, x::undo);
        Check.is("16 taken back", 120, () -> x.windOf(2));
    }

    private static void promise17Change() {
        SondeStations x = Nets.small();
        Check.is("17 change(0, 2, 5)", 15, () -> x.change(0, 2, 5));
        Check.is("17 change(0, 2, 5) again", 2, () -> x.change(0, 2, 5));
        Check.is("17 the hours", 2, () -> x.station(0, 1));
        Check.is("17 the size", 5, () -> x.station(0, 2));
        x.run(2);
        Check.is("17 one release", 1, () -> x.about(4));
        Check.is("17 it took 5", 0, () -> x.station(0, 3));
        Check.index("17 change(1, 16, 0)", () -> x.change(1, 16, 0));
        Check.index("17 change(-1, 0, 1)", () -> x.change(-1, 0, 1));
        Check.argument("17 change(0, -1, 1)", () -> x.change(0, -1, 1));
        Check.argument("17 change(0, 16, 1)", () -> x.change(0, 16, 1));
        Check.argument("17 change(0, 0, 0)", () -> x.change(0, 0, 0));
        Check.argument("17 change(0, 0, 6)", () -> x.change(0, 0, 6));
        Check.is("17 actions", 4, x::undo);
    }

    private static void promise18Deliver() {
        SondeStations x = new SondeStations();
        x.addStation(5, 0, 1, 0, 0);
        x.addStation(6, 0, 1, 0, 0);
        Check.is("18 the price", 7 * 2 + 3 * 20, () -> x.deliver(1, 7, 3));
        x.set(2, 99);
        x.set(3, 98);
        Check.is("18 the highest price", 999 * 99 + 99 * 98, () -> x.deliver(0, 999, 99));
        Check.is("18 paid at once", 74 + 99 * 999 + 99 * 98, () -> x.about(3));
        x.set(0, 1);
        Check.is("18 gas alone", 99, () -> x.deliver(0, 1, 0));
        x.run(2);
        Check.is("18 the quick one is there", 1, () -> x.station(0, 3));
        x.run(2);
        Check.is("18 the others come in watch 4", 2, () -> x.about(10));
        x.run(1);
        Check.is("18 now they came", 0, () -> x.about(10));
        Check.is("18 gas of 0", 1000, () -> x.station(0, 3));
        Check.is("18 sondes of 0", 99, () -> x.stock(0, 0));
        Check.is("18 gas of 1", 7, () -> x.station(1, 3));
        Check.is("18 sondes of 1", 3, () -> x.stock(1, 0));
        Check.state("18 nothing", () -> x.deliver(0, 0, 0));
        x.set(0, 30);
        for (int k = 0; k < 8; k++) {
            Check.is("18 a sonde", 98, () -> x.deliver(0, 0, 1));
        }
        Check.state("18 a ninth", () -> x.deliver(0, 0, 1));
        Check.index("18 deliver(2, 1000, 0)", () -> x.deliver(2, 1000, 0));
        Check.index("18 deliver(-1, 0, 0)", () -> x.deliver(-1, 0, 0));
        Check.argument("18 deliver(0, 1000, 0)", () -> x.deliver(0, 1000, 0));
        Check.argument("18 deliver(0, -1, 0)", () -> x.deliver(0, -1, 0));
        Check.argument("18 deliver(0, 0, -1)", () -> x.deliver(0, 0, -1));
        Check.argument("18 deliver(0, 0, 100)", () -> x.deliver(0, 0, 100));
        x.run(31);
        Check.is("18 all came", 107, () -> x.about(11) - x.station(1, 4));
        Check.is("18 there is room again", 98, () -> x.deliver(0, 0, 1));
    }

    private static void promise19Move() {
        SondeStations x = Nets.small();
        x.addStation(80, 0, 1, 0, 0);
        x.run(3);
        x.change(0, 0, 1);
        x.run(5);
        Check.is("19 both lie at 0", 1, () -> x.stock(0, 1) * x.stock(0, 2));
        Check.is("19 the most flown one first", 2, () -> x.move(0, 1));
        Check.is("19 it left", 0, () -> x.stock(0, 2));
        Check.is("19 it is there", 1, () -> x.stock(1, 2));
        Check.is("19 then the other one", 1, () -> x.move(0, 1));
        Check.state("19 then none", () -> x.move(0, 1));
        Check.is("19 and back", 2, () -> x.move(1, 0));
        Check.state("19 the same", () -> x.move(1, 1));
        Check.index("19 move(2, 0)", () -> x.move(2, 0));
        Check.index("19 move(2, 2)", () -> x.move(2, 2));
        Check.index("19 move(0, 2)", () -> x.move(0, 2));
        Check.index("19 move(0, -1)", () -> x.move(0, -1));
        Check.index("19 move(-1, 0)", () -> x.move(-1, 0));
        Check.is("19 nothing is paid but the rewards", 15, () -> x.about(3));
    }

    private static void promise20Run() {
        SondeStations x = Nets.small();
        Check.is("20 run(2)", 2, () -> x.run(2));
        Check.is("20 run(5)", 3, () -> x.run(5));
        Check.is("20 run(40)", 0, () -> x.run(40));
        Check.is("20 now", 47, () -> x.about(2));
        Check.argument("20 run(0)", () -> x.run(0));
        Check.argument("20 run(41)", () -> x.run(41));
        Check.is("20 one action each", 4, x::undo);
        landsAndIsFound();
        rewardAndLimitAreThoseOfTheWatch();
    }

    private static void landsAndIsFound() {
        SondeStations x = new SondeStations();
        x.addStation(0, 1, 1, 9, 1);
        x.addStation(99, 2, 1, 9, 1);
        x.addFinder(10, 10, 1);
        x.addFinder(12, 12, 2);
        x.addFinder(8, 2, 3);
        x.wind(0, -1);
        x.wind(1, 1);
        x.run(2);
        Check.is("20 both are lost outside", 2, () -> x.about(6));
        x.set(0, 1);
        x.deliver(0, 0, 3);
        x.wind(0, 0);
        x.run(3);
        Check.is("20 found at the edge of the reach", 1, () -> x.finder(0, 3));
        x.wind(0, 9);
        x.run(4);
        Check.is("20 of 8 and 10 the lower one", 2, () -> x.finder(0, 3));
        x.wind(0, 11);
        x.run(4);
        Check.is("20 of 10 and 12 the lower one", 3, () -> x.finder(0, 3));
        Check.is("20 the others found none", 0, () -> x.finder(1, 3) + x.finder(2, 3));
        x.deliver(0, 0, 1);
        x.wind(0, 8);
        x.run(4);
        Check.is("20 the nearest one", 1, () -> x.finder(2, 3));
    }

    private static void rewardAndLimitAreThoseOfTheWatch() {
        SondeStations x = Nets.small();
        x.run(1);
        x.set(4, 50);
        x.run(2);
        Check.is("20 the reward as it is when it comes", 50, () -> x.about(3));
        x.set(1, 1);
        Check.is("20 on the way stays on the way", 2, () -> x.about(9));
        x.run(1);
        Check.is("20 scrapped by the new limit", 1, () -> x.about(8));
        Check.is("20 the other one comes", 1, () -> x.about(9));
    }

    private static void promise21Set() {
        SondeStations x = new SondeStations();
        int[][] ranges = {{1, 30, 4}, {1, 5, 3}, {0, 99, 2}, {0, 99, 20}, {0, 99, 5}};
        for (int what = 0; what < 5; what++) {
            int k = what;
            int[] range = ranges[what];
            Check.is("21 the lowest of " + what, range[2], () -> x.set(k, range[0]));
            Check.is("21 the highest of " + what, range[0], () -> x.set(k, range[1]));
            Check.argument("21 too low for " + what, () -> x.set(k, range[0] - 1));
            Check.argument("21 too high for " + what, () -> x.set(k, range[1] + 1));
            Check.is("21 what stays of " + what, range[1], () -> x.setting(k));
        }
        Check.argument("21 set(-1, 1)", () -> x.set(-1, 1));
        Check.argument("21 set(5, 1)", () -> x.set(5, 1));
        Check.is("21 ten actions", 9, x::undo);
        SondeStations y = Nets.small();
        y.deliver(0, 5, 0);
        y.set(0, 1);
        y.run(4);
        Check.is("21 what is on the way stays", 1, () -> y.about(10));
        y.run(1);
        Check.is("21 and comes in its watch", 0, () -> y.about(10));
    }

    private static void promise22Undo() {
        SondeStations x = Nets.small();
        Nets.type(x, "Nr1");
        x.save(0);
        x.run(7);
        Check.is("22 undo() of run", 2, x::undo);
        abouts("22", x, 1, 1, 0, 0, 0, 0, 0, 0, 0, 0, 0, 2);
        gaps(x, 0, -1, -1, -1);
        Check.is("22 the finder's number too", 0, () -> x.finder(0, 3));
        Check.is("22 the station's number too", 0, () -> x.station(0, 5));
        Check.is("22 the text stays", 3, x::clearText);
        Check.is("22 undo() of addFinder", 1, x::undo);
        Check.is("22 undo() of addStation", 0, x::undo);
        Check.state("22 no more", x::undo);
        Check.is("22 the slot stays", 0, () -> x.restore(0));
        Check.is("22 with its station", 1, () -> x.about(0));
        for (int k = 1; k <= 20; k++) {
            x.run(k);
        }
        Check.is("22 nothing is no action", 0, () -> x.about(2) - 210);
        for (int k = 13; k >= 0; k--) {
            int left = k;
            Check.is("22 undo()", left, x::undo);
            int gone = (6 + left) * (7 + left) / 2;
            Check.is("22 now", gone, () -> x.about(2));
        }
        Check.state("22 only 14 are remembered", x::undo);
        x.wind(0, 0);
        Check.is("22 an action without a difference", 0, x::undo);
        x.run(1);
        x.set(4, 9);
        x.undo();
        x.change(0, 3, 3);
        Check.is("22 behind an undo", 1, x::undo);
        Check.is("22 the hours are back", 15, () -> x.station(0, 1));
        Check.is("22 and the first one", 0, x::undo);
        Check.is("22 now is what it was", 21, () -> x.about(2));
    }

    private static void promise23Landing() {
        SondeStations x = new SondeStations();
        x.addStation(50, 0, 5, 0, 0);
        x.addStation(4, 0, 2, 0, 0);
        x.wind(0, 9);
        x.wind(1, 10);
        x.wind(2, -10);
        x.wind(3, -2);
        Check.is("23 landing(0, 0)", 95, () -> x.landing(0, 0));
        Check.is("23 landing(0, 1)", -1, () -> x.landing(0, 1));
        Check.is("23 landing(0, 2)", 0, () -> x.landing(0, 2));
        Check.is("23 landing(1, 3)", 0, () -> x.landing(1, 3));
        x.wind(3, -3);
        Check.is("23 below 0", -1, () -> x.landing(1, 3));
        x.addStation(90, 0, 1, 0, 0);
        Check.is("23 at 99", 99, () -> x.landing(2, 0));
        Check.index("23 landing(3, 4)", () -> x.landing(3, 4));
        Check.index("23 landing(-1, 0)", () -> x.landing(-1, 0));
        Check.argument("23 landing(0, 4)", () -> x.landing(0, 4));
        Check.argument("23 landing(0, -1)", () -> x.landing(0, -1));
    }

    private static void promise24Finds() {
        SondeStations x = new SondeStations();
        Check.is("24 without finders", -1, () -> x.finds(0));
        x.addFinder(10, 5, 1);
        x.addFinder(20, 5, 1);
        x.addFinder(14, 1, 1);
        x.addFinder(20, 9, 1);
        int[][] due = {{4, -1}, {5, 0}, {12, 0}, {13, 2}, {14, 2}, {15, 2}, {16, 1}, {25, 1}, {26, 3}, {29, 3},
            {30, -1}, {99, -1}, {0, -1}, {11, 0}};
        for (int[] d : due) {
            Check.is("24 finds(" + d[0] + ")", d[1], () -> x.finds(d[0]));
        }
        Check.argument("24 finds(-1)", () -> x.finds(-1));
        Check.argument("24 finds(100)", () -> x.finds(100));
    }

    private static void promise25Coming() {
        SondeStations x = Nets.small();
        int[][] due = {{1, 1, 0, 0, 1}, {3, 3, 0, 5, 0}, {7, 5, 2, 20, 1}, {60, 5, 55, 20, 1}};
        for (int[] d : due) {
            for (int what = 0; what < 4; what++) {
                int k = what;
                Check.is("25 coming(" + d[0] + ", " + what + ")", d[what + 1], () -> x.coming(d[0], k));
            }
        }
        x.run(6);
        Check.is("25 only those in them", 0, () -> x.coming(1, 0));
        Check.is("25 the gap in them", 1, () -> x.coming(1, 1));
        Check.is("25 what is paid in them", 0, () -> x.coming(1, 2));
        Check.is("25 nothing changes", 6, () -> x.about(2));
        Check.is("25 no action", 2, x::undo);
        Check.argument("25 coming(0, 0)", () -> x.coming(0, 0));
        Check.argument("25 coming(61, 0)", () -> x.coming(61, 0));
        Check.argument("25 coming(1, -1)", () -> x.coming(1, -1));
        Check.argument("25 coming(1, 4)", () -> x.coming(1, 4));
    }

    private static void promise26FirstGap() {
        SondeStations x = new SondeStations();
        Check.is("26 without stations", -1, x::firstGap);
        x.addStation(20, 15, 1, 5, 2);
        x.addFinder(20, 0, 2);
        Check.is("26 the first one of them", 5, x::firstGap);
        x.run(5);
        Check.is("26 that of now", 5, x::firstGap);
        x.run(5);
        Check.is("26 not one before", 10, x::firstGap);
        Check.is("26 nothing changes", 10, () -> x.about(2));
        SondeStations y = new SondeStations();
        y.addStation(0, 15, 1, 59, 99);
        Check.is("26 the last of 60", 59, y::firstGap);
        y.deliver(0, 1, 0);
        Check.is("26 behind 60", -1, y::firstGap);
        y.run(1);
        Check.is("26 60 from now on", 60, y::firstGap);
    }

    private static void promise27Lacks() {
        SondeStations x = Nets.small();
        Check.is("27 lacks(0, 5)", 0, () -> x.lacks(0, 5));
        // with gas there is a gap by sondes or a release, but each needs that there is 1 gas
        Check.is("27 lacks(0, 6)", 1, () -> x.lacks(0, 6));
        Check.is("27 the sondes are scrapped in 4 and 5, then there are gaps by sondes", 2, () -> x.lacks(0, 60));
        x.addStation(70, 3, 5, 7, 99);
        x.deliver(1, 3, 0);
        // watches 0, 1 take 10 of 7; watch 4 brings 3, watches 4, 5 take 10; watches 8, 9
        Check.is("27 lacks(1, 1)", 0, () -> x.lacks(1, 1));
        Check.is("27 lacks(1, 2)", 3, () -> x.lacks(1, 2));
        Check.is("27 lacks(1, 4)", 3, () -> x.lacks(1, 4));
        Check.is("27 lacks(1, 5)", 5, () -> x.lacks(1, 5));
        Check.is("27 lacks(1, 6)", 10, () -> x.lacks(1, 6));
        Check.is("27 lacks(1, 60)", 30 * 5 - 10, () -> x.lacks(1, 60));
        x.addStation(70, 15, 5, 0, 99);
        Check.is("27 the most", 300, () -> x.lacks(2, 60));
        x.addStation(70, 15, 5, 0, 0);
        Check.is("27 without sondes", 5, () -> x.lacks(3, 60));
        x.addStation(70, 0, 5, 0, 0);
        Check.is("27 without hours", 0, () -> x.lacks(4, 60));
        Check.is("27 nothing changes", 7, () -> x.station(1, 3));
        Check.index("27 lacks(5, 0)", () -> x.lacks(5, 0));
        Check.index("27 lacks(-1, 1)", () -> x.lacks(-1, 1));
        Check.argument("27 lacks(0, 0)", () -> x.lacks(0, 0));
        Check.argument("27 lacks(0, 61)", () -> x.lacks(0, 61));
    }

    private static void promise28IfDelivered() {
        SondeStations x = Nets.small();
        x.addStation(70, 0, 5, 0, 0);
        Check.is("28 too early to see", 0, () -> x.ifDelivered(0, 1, 0, 5));
        Check.is("28 one gas puts one gap off", 1, () -> x.ifDelivered(0, 1, 0, 7));
        Check.is("28 as it is", 2, () -> x.coming(7, 1));
        Check.is("28 to another station", 2, () -> x.ifDelivered(1, 99, 99, 7));
        // with much gas: the second sonde is scrapped in 5; sondes delivered in 4 go up in 6, 7, and from 8 on
        Check.is("28 enough of all", 0, () -> x.ifDelivered(0, 999, 99, 60));
        Check.is("28 gas alone does not do", 54, () -> x.ifDelivered(0, 999, 0, 60));
        Check.is("28 nothing changes", 0, () -> x.about(3) + x.about(10));
        Check.index("28 no station", () -> x.ifDelivered(2, 1000, 0, 0));
        Check.index("28 no station -1", () -> x.ifDelivered(-1, 1, 1, 1));
        Check.argument("28 gas", () -> x.ifDelivered(0, 1000, 0, 1));
        Check.argument("28 gas -1", () -> x.ifDelivered(0, -1, 0, 1));
        Check.argument("28 sondes", () -> x.ifDelivered(0, 0, 100, 1));
        Check.argument("28 sondes -1", () -> x.ifDelivered(0, 0, -1, 1));
        Check.argument("28 n 0, before nothing", () -> x.ifDelivered(0, 0, 0, 0));
        Check.argument("28 n 61", () -> x.ifDelivered(0, 1, 0, 61));
        Check.state("28 nothing", () -> x.ifDelivered(0, 0, 0, 60));
        for (int k = 0; k < 8; k++) {
            x.deliver(1, 1, 0);
        }
        Check.state("28 a ninth", () -> x.ifDelivered(0, 1, 0, 1));
        Check.argument("28 n before a ninth", () -> x.ifDelivered(0, 1, 0, 61));
    }

    private static void promise29RunScript() {
        SondeStations x = Nets.small();
        x.addStation(80, 0, 2, 30, 12);
        long[] good = {10011L, 10990L, 10009L, 20100L, 21000L, 30155L, 31001L, 40000L, 43400L, 50010L, 50300L, 51050L,
            52990L, 54000L, 60001L, 60040L, 70050L, 71300L, 80020L, 81120L, 90000L, 90990L};
        for (long one : good) {
            Check.is("29 runScript(1, " + one + ")", -1, () -> x.runScript(1, one));
        }
        long[] bad = {0L, 9L, 10000L, 12011L, 20000L, 20200L, 22000L, 20110L, 20101L, 30161L, 30150L, 30156L, 32001L,
            40410L, 44000L, 40001L, 50000L, 50310L, 51060L, 51000L, 55000L, 50011L, 60000L, 60041L, 61001L, 60101L,
            70060L, 71310L, 72000L, 70051L, 80030L, 81130L, 82000L, 80021L, 91000L, 90001L, 99999L};
        for (long one : bad) {
            Check.is("29 runScript(1, " + one + ")", 0, () -> x.runScript(1, one));
        }
        Check.is("29 the first fails", 0, () -> x.runScript(3, 600016000160001L - 600000000000000L));
        Check.is("29 the second fails", 1, () -> x.runScript(3, 600010000060001L));
        Check.is("29 the third fails", 2, () -> x.runScript(3, 600016000160000L));
        Check.is("29 none fails", -1, () -> x.runScript(3, 600016000160001L));
        Check.is("29 zeros before it", 0, () -> x.runScript(2, 60001L));
        Check.is("29 one behind the other", -1, () -> x.runScript(3, 201002010080000L));
        Check.is("29 the third has no sonde", 2, () -> x.runScript(3, 201002010020100L));
        Check.is("29 gas goes", 1, () -> x.runScript(2, 6000170050L));
        Check.is("29 gas that is left", -1, () -> x.runScript(2, 6000170040L));
        Check.is("29 gas comes", -1, () -> x.runScript(3, 105006000970450L));
        Check.is("29 gaps in it", -1, () -> x.runScript(2, 6000790020L));
        Check.is("29 one more", 1, () -> x.runScript(2, 6000890020L));
        Check.is("29 on a copy", 0, () -> x.about(2));
        Check.is("29 no action", 2, x::undo);
        x.run(40);
        Check.is("29 gaps so far, before it too", 0, () -> x.runScript(1, 90340L));
        Check.is("29 at most so many", -1, () -> x.runScript(1, 90350L));
        Check.argument("29 n 0", () -> x.runScript(0, 0L));
        Check.argument("29 n 4", () -> x.runScript(4, 0L));
        Check.argument("29 negative", () -> x.runScript(1, -1L));
        Check.argument("29 six digits", () -> x.runScript(1, 100000L));
        Check.argument("29 eleven digits", () -> x.runScript(2, 10000000000L));
        Check.argument("29 sixteen digits", () -> x.runScript(3, 1000000000000000L));
        Check.argument("29 the longest", () -> x.runScript(3, Long.MAX_VALUE));
        Check.argument("29 the least", () -> x.runScript(3, Long.MIN_VALUE));
        Check.is("29 fifteen digits", 0, () -> x.runScript(3, 999999999999999L));
        Check.is("29 ten digits", 0, () -> x.runScript(2, 9999999999L));
    }

    private static void promise30Simulate() {
        SondeStations x = new SondeStations();
        Check.is("30 without stations", 0, () -> x.simulate(5L, 40));
        x.addStation(20, 15, 1, 5, 2);
        x.addFinder(20, 0, 2);
        for (long seed = -40L; seed < 40L; seed++) {
            long one = seed * 987654321987L;
            Check.is("30 simulate(" + one + ", 1)", firstTurn(one), () -> x.simulate(one, 1));
        }
        Check.is("30 on a copy", 0, () -> x.about(2));
        Check.is("30 no action", 1, x::undo);
        Check.argument("30 m 0", () -> x.simulate(0L, 0));
        Check.argument("30 m 41", () -> x.simulate(0L, 41));
    }

    /** What one turn brings in the small net: only watches bring releases, and each of the first four has one. */
    private static int firstTurn(long seed) {
        long x = seed * 6364136223846793005L + 1442695040888963407L;
        int r = (int) (x >>> 33);
        return r % 8 < 4 ? 0 : 1000 * (1 + r / 8 % 4);
    }

    private static void promise31Save() {
        SondeStations x = Nets.small();
        Check.is("31 save(0)", 0, () -> x.save(0));
        x.run(7);
        Check.is("31 save(1)", 7, () -> x.save(1));
        Check.index("31 save(-1)", () -> x.save(-1));
        Check.index("31 save(2)", () -> x.save(2));
        Check.is("31 no action", 2, x::undo);
        Check.is("31 slot 1", 7, () -> x.restore(1));
        abouts("31", x, 1, 1, 7, 20, 5, 2, 0, 4, 1, 0, 0, 1);
        Check.is("31 slot 0", 0, () -> x.restore(0));
        x.run(2);
        Check.is("31 over it", 2, () -> x.save(1));
        Check.is("31 slot 0 again", 0, () -> x.restore(0));
        Check.is("31 slot 1 again", 2, () -> x.restore(1));
        backs(x, 0, 2, 0, 1);
        backs(x, 1, 3, 0, 1);
    }

    private static void promise32Restore() {
        SondeStations x = Nets.small();
        Check.state("32 nothing there", () -> x.restore(0));
        Check.state("32 nothing there", () -> x.restore(1));
        Check.index("32 restore(2)", () -> x.restore(2));
        Check.index("32 restore(-1)", () -> x.restore(-1));
        Check.is("32 a refused one forgets nothing", 1, x::undo);
        x.addFinder(20, 0, 2);
        x.wind(1, 7);
        x.set(4, 8);
        x.run(6);
        x.save(1);
        x.run(9);
        Nets.type(x, "Nr7");
        Check.is("32 restore(1)", 6, () -> x.restore(1));
        Check.state("32 all states are forgotten", x::undo);
        Check.is("32 windOf(1)", 107, () -> x.windOf(1));
        Check.is("32 setting(4)", 8, () -> x.setting(4));
        Check.is("32 the text stays", 3, x::clearText);
        x.run(4);
        x.wind(1, 0);
        Check.is("32 the slot keeps it", 6, () -> x.restore(1));
        Check.is("32 the wind too", 107, () -> x.windOf(1));
        x.run(3);
        Check.is("32 undo() behind it", 0, x::undo);
        Check.is("32 to what was restored", 6, () -> x.about(2));
        Nets.type(x, "N");
        x.load();
        Check.state("32 load empties the slot", () -> x.restore(1));
    }
}

import java.util.Arrays;
import java.util.Random;

/** Long runs of calls, drawn from fixed seeds, each answered by the program and by the plain model. */
public final class ModelTests {
    private static final int RUNS = 220;
    private static final int CALLS = 512;

    private final Random random;
    private final SondeStations program = new SondeStations();
    private final PlainModel model = new PlainModel();
    private final int run;
    private int made = 0;

    private ModelTests(int run) {
        this.run = run;
        this.random = new Random(run);
    }

    public static void main(String[] args) {
        for (int run = 0; run < RUNS && Check.wrong() == 0; run++) {
            ModelTests one = new ModelTests(run);
            one.start();
            while (one.made < CALLS && Check.wrong() == 0) {
                one.drawCall();
            }
        }
        Check.end("ModelTests");
    }

    /** Most runs begin with stations and finders, so that something happens in them. */
    private void start() {
        if (run % 4 == 0) {
            return;
        }
        boolean busy = run % 4 == 1;
        for (int s = 0; s < 1 + run % 5; s++) {
            call("addStation", 30 + upTo(40), busy ? 15 : upTo(15), busy ? 1 : 1 + upTo(4), upTo(busy ? 999 : 60),
                    upTo(busy ? 99 : 8));
        }
        for (int f = 0; f < 1 + run % 6; f++) {
            call("addFinder", 10 + upTo(80), 10 + upTo(10), busy ? 25 + upTo(5) : 1 + upTo(9));
        }
        if (busy) {
            call("set", 1, 5);
        }
    }

    private int upTo(int high) {
        return random.nextInt(high + 1);
    }

    /** A number of the range, and now and then one just outside or far away. */
    private int around(int low, int high) {
        switch (upTo(30)) {
            case 0:
                return low - 1;
            case 1:
                return high + 1;
            case 2:
                return random.nextBoolean() ? low : high;
            case 3:
                return upTo(9) > 0 ? low : random.nextBoolean() ? Integer.MAX_VALUE : Integer.MIN_VALUE;
            default:
                return low + upTo(high - low);
        }
    }

    private void call(String name, long... a) {
        if (made >= CALLS) {
            return;
        }
        made++;
        String told = "run " + run + ", call " + made + ": " + name + Arrays.toString(a);
        Check.same(told, Check.answer(() -> programCall(name, a)), Check.answer(() -> model.call(name, a)));
    }

    private void drawCall() {
        int kind = upTo(99);
        if (kind < 30) {
            drawAction();
        } else if (kind < 58) {
            drawQuestion();
        } else if (kind < 86) {
            drawForesight();
        } else if (kind < 90) {
            call("undo");
        } else if (kind < 94) {
            call(random.nextBoolean() ? "save" : "restore", around(0, 1));
        } else if (kind < 95) {
            drawText();
        } else if (kind < 98) {
            call("errorPosition");
        } else {
            call("append", upTo(3) > 0 ? 'r' : around(0, 255));
        }
    }

    private void drawAction() {
        switch (upTo(11)) {
            case 0:
                call("addStation", around(0, 99), around(0, 15), around(1, 5), around(0, 999), around(0, 99));
                break;
            case 1:
                call("addFinder", around(0, 99), around(0, 20), around(1, 30));
                break;
            case 2:
                call("wind", around(0, 3), around(-20, 20));
                break;
            case 3:
                call("wind", upTo(3), upTo(10) - 5);
                break;
            case 4:
                call("change", around(0, 4), around(0, 15), around(1, 5));
                break;
            case 5:
            case 6:
                call("deliver", around(0, 4), around(0, upTo(5) > 0 ? 30 : 999), around(0, upTo(5) > 0 ? 5 : 99));
                break;
            case 7:
                call("move", around(0, 4), around(0, 4));
                break;
            case 8:
                call("set", around(0, 4), around(0, upTo(1) > 0 ? 99 : 5));
                break;
            case 9:
                call("run", around(1, 40));
                break;
            default:
                call("run", 1 + upTo(5));
                break;
        }
    }

    private void drawQuestion() {
        switch (upTo(7)) {
            case 0:
                call("about", around(0, 11));
                break;
            case 1:
                call("station", around(0, 4), around(0, 7));
                break;
            case 2:
                call("stock", around(0, 4), around(0, 4));
                break;
            case 3:
                call("finder", around(0, 5), around(0, 4));
                break;
            case 4:
                call("back", around(0, upTo(1) > 0 ? 160 : 5), around(0, 2));
                break;
            case 5:
                call("gap", around(0, 14), around(0, 2));
                break;
            case 6:
                call("windOf", around(0, 3));
                break;
            default:
                call("setting", around(0, 4));
                break;
        }
    }

    private void drawForesight() {
        switch (upTo(8)) {
            case 0:
                call("landing", around(0, 4), around(0, 3));
                break;
            case 1:
                call("finds", around(0, 99));
                break;
            case 2:
                call("coming", around(1, 60), around(0, 3));
                break;
            case 3:
                call("firstGap");
                break;
            case 4:
                call("lacks", around(0, 4), around(1, 60));
                break;
            case 5:
                call("ifDelivered", around(0, 4), around(0, 99), around(0, 9), around(1, 60));
                break;
            case 6:
                call("simulate", random.nextLong(), around(1, 40));
                break;
            default:
                drawScript();
                break;
        }
    }

    private void drawScript() {
        long script = 0;
        int commands = 1 + upTo(2);
        for (int k = 0; k < commands; k++) {
            script = script * 100000 + drawGroup();
        }
        if (upTo(20) == 0) {
            script = random.nextLong();
        }
        call("runScript", upTo(15) == 0 ? around(1, 3) : commands, script);
    }

    private int drawGroup() {
        int s = upTo(5);
        switch (upTo(10)) {
            case 0:
                return upTo(99999);
            case 1:
                return 10000 + 1000 * s + upTo(999);
            case 2:
                return 20000 + 1000 * s + 100 * upTo(5) + (upTo(5) == 0 ? upTo(20) : 0);
            case 3:
                return 30000 + 1000 * s + 10 * upTo(16) + upTo(6);
            case 4:
                return 40000 + 1000 * upTo(4) + 10 * upTo(41) + upTo(5) / 5;
            case 5:
                return 50000 + 1000 * upTo(5) + 10 * upTo(99) + upTo(5) / 5;
            case 6:
                return 60000 + upTo(45) + (upTo(5) == 0 ? 100 * upTo(10) : 0);
            case 7:
                return 70000 + 1000 * s + 10 * upTo(99) + upTo(5) / 5;
            case 8:
                return 80000 + 1000 * s + 10 * upTo(20) + upTo(5) / 5;
            default:
                return 90000 + 1000 * (upTo(5) / 5) + 10 * upTo(99) + upTo(5) / 5;
        }
    }

    /** Types a text, most often a net, checks it and loads it. */
    private void drawText() {
        StringBuilder text = new StringBuilder("N");
        int commands = upTo(16);
        for (int k = 0; k < commands; k++) {
            text.append(drawTextCommand());
        }
        if (upTo(2) == 0) {
            int at = upTo(text.length() - 1);
            text.setCharAt(at, "0123456789+-Nsfwdr ".charAt(upTo(18)));
        }
        call("clearText");
        for (int k = 0; k < text.length() - (upTo(4) == 0 ? 1 : 0); k++) {
            call("append", text.charAt(k));
        }
        call("errorPosition");
        call("load");
        for (int what = 0; what < 12; what++) {
            call("about", what);
        }
    }

    private String drawTextCommand() {
        switch (upTo(9)) {
            case 0:
            case 1:
                return String.format("s%02d%02d%d%02d%d", upTo(99), upTo(15), 1 + upTo(4), upTo(99), upTo(9));
            case 2:
            case 3:
                return String.format("f%02d%02d%02d", upTo(99), upTo(20), 1 + upTo(29));
            case 4:
                return String.format("w%d%s%02d", upTo(3), upTo(1) > 0 ? "+" : "-", upTo(20));
            case 5:
            case 6:
                return String.format("d%d%02d%d", upTo(4), upTo(upTo(3) * 33), upTo(upTo(3) * 3));
            default:
                return String.format("r%d", 1 + upTo(8));
        }
    }

    private int programCall(String name, long[] a) {
        int[] b = new int[a.length];
        for (int k = 0; k < a.length; k++) {
            b[k] = (int) a[k];
        }
        SondeStations x = program;
        return switch (name) {
            case "append" -> x.append(b[0]);
            case "clearText" -> x.clearText();
            case "errorPosition" -> x.errorPosition();
            case "load" -> x.load();
            case "about" -> x.about(b[0]);
            case "station" -> x.station(b[0], b[1]);
            case "stock" -> x.stock(b[0], b[1]);
            case "finder" -> x.finder(b[0], b[1]);
            case "back" -> x.back(b[0], b[1]);
            case "gap" -> x.gap(b[0], b[1]);
            case "windOf" -> x.windOf(b[0]);
            case "setting" -> x.setting(b[0]);
            case "addStation" -> x.addStation(b[0], b[1], b[2], b[3], b[4]);
            case "addFinder" -> x.addFinder(b[0], b[1], b[2]);
            case "wind" -> x.wind(b[0], b[1]);
            case "change" -> x.change(b[0], b[1], b[2]);
            case "deliver" -> x.deliver(b[0], b[1], b[2]);
            case "move" -> x.move(b[0], b[1]);
            case "run" -> x.run(b[0]);
            case "set" -> x.set(b[0], b[1]);
            case "undo" -> x.undo();
            case "landing" -> x.landing(b[0], b[1]);
            case "finds" -> x.finds(b[0]);
            case "coming" -> x.coming(b[0], b[1]);
            case "firstGap" -> x.firstGap();
            case "lacks" -> x.lacks(b[0], b[1]);
            case "ifDelivered" -> x.ifDelivered(b[0], b[1], b[2], b[3]);
            case "runScript" -> x.runScript(b[0], a[1]);
            case "simulate" -> x.simulate(a[0], b[1]);
            case "save" -> x.save(b[0]);
            case "restore" -> x.restore(b[0]);
            default -> throw new UnsupportedOperationException(name);
        };
    }
}

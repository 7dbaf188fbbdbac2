/** The boundary cases that the promises 1 to 5 name: a new object, and the text. */
public final class TextBoundaryTests {
    private static final Refused NEW = new Refused(SondeStations::new);
    private static final Refused ROOMY = new Refused(Nets::roomy);
    private static final Refused FULL = new Refused(Nets::full);
    private static final String FIRST_OF_COMMANDS = "sfwdr";
    private static final String DIGITS = "0123456789";

    private TextBoundaryTests() {
    }

    public static void main(String[] args) {
        Check.sentence(1, "Creates a net without stations and finders.", TextBoundaryTests::nothingInIt);
        Check.sentence(1, "Creates a net without stations and finders", TextBoundaryTests::objectsOfTheirOwn);
        Check.sentence(1, "Now is the watch 0 at first.", TextBoundaryTests::firstValues);

        Check.sentence(2, "`c`: character code, 0 to 255", TextBoundaryTests::everyCode);
        Check.sentence(2, "Returns the new length of the text.", TextBoundaryTests::newLength);
        Check.sentence(2, "Throws `IllegalArgumentException` if c is out of range", TextBoundaryTests::codeOutOfRange);
        Check.sentence(2, "Throws `IllegalStateException` if the text already has 120 characters",
                TextBoundaryTests::fullText);
        Check.sentence(2, "If several exceptions apply to a call, the one that its description names first is thrown.",
                TextBoundaryTests::codeBeforeFullText);

        Check.sentence(3, "Empties the text buffer.", TextBoundaryTests::emptied);
        Check.sentence(3, "Returns the previous length of the text.", TextBoundaryTests::previousLength);

        Check.sentence(4, "NONE if it is a net.", TextBoundaryTests::textsThatAreNets);
        Check.sentence(4, "The error position is the index of the first character that these rules do not allow at its "
                + "place", TextBoundaryTests::everyCharacterAtEveryPlace);
        Check.sentence(4, "if the text ends too soon, it is the length of the text.", TextBoundaryTests::endsTooSoon);
        Check.sentence(4, "The object has a text buffer", TextBoundaryTests::endsBeforeAnOlderText);
        Check.sentence(4, "and then any number of commands", TextBoundaryTests::anyNumberOfCommands);
        Check.sentence(4, "The text is read from left to right.", TextBoundaryTests::firstOfTwoErrors);

        Check.sentence(5, "Makes everything as in a new object, and then does the commands of the text.",
                TextBoundaryTests::asInANewObject);
        Check.sentence(5, "Makes everything as in a new object, and then does the commands", TextBoundaryTests::edges);
        Check.sentence(5, "Behind it no state is remembered, and both save slots are empty.",
                TextBoundaryTests::nothingRememberedOrSaved);
        Check.sentence(5, "Keeps the text.", TextBoundaryTests::textIsKept);
        Check.sentence(5, "Returns the number of commands that are left out.", TextBoundaryTests::leftOut);
        Check.sentence(5, "Commands that would throw an exception are left out.", TextBoundaryTests::theOthersAreDone);
        Check.sentence(5, "Throws `IllegalStateException` if the text is not a net", TextBoundaryTests::notANet);
        Check.end("TextBoundaryTests");
    }

    // ---- 1: a new object

    private static void nothingInIt() {
        SondeStations x = new SondeStations();
        for (int what = 0; what < 12; what++) {
            int k = what;
            Check.is("about(" + what + ")", 0, () -> x.about(k));
        }
        Check.index("station(0, 0)", () -> x.station(0, 0));
        Check.index("stock(0, 0)", () -> x.stock(0, 0));
        Check.index("finder(0, 0)", () -> x.finder(0, 0));
        Check.is("back(0, 0)", SondeStations.NONE, () -> x.back(0, 0));
        Check.is("gap(0, 0)", SondeStations.NONE, () -> x.gap(0, 0));
        Check.is("firstGap()", SondeStations.NONE, x::firstGap);
        for (int place = 0; place <= 99; place++) {
            int p = place;
            Check.is("finds(" + place + ")", SondeStations.NONE, () -> x.finds(p));
        }
        for (int what = 0; what < 4; what++) {
            int k = what;
            Check.is("coming(60, " + what + ")", 0, () -> x.coming(60, k));
        }
        Check.state("undo()", x::undo);
        Check.state("restore(0)", () -> x.restore(0));
        Check.state("restore(1)", () -> x.restore(1));
        Check.is("clearText()", 0, x::clearText);
    }

    private static void objectsOfTheirOwn() {
        SondeStations full = Nets.full();
        Check.same("a new one beside a full one", Nets.everything(SondeStations::new),
                Nets.everything(() -> Nets.typed("")));
        Check.is("the full one", 5, () -> full.about(0));
    }

    private static void firstValues() {
        SondeStations x = new SondeStations();
        Check.is("about(2)", 0, () -> x.about(2));
        int[] settings = {4, 3, 2, 20, 5};
        for (int what = 0; what < 5; what++) {
            int k = what;
            Check.is("setting(" + what + ")", settings[what], () -> x.setting(k));
        }
        for (int hour = 0; hour < 4; hour++) {
            int h = hour;
            Check.is("windOf(" + hour + ")", 100, () -> x.windOf(h));
        }
    }

    // ---- 2: append

    private static void everyCode() {
        for (int start = 0; start < 256; start += 64) {
            SondeStations x = new SondeStations();
            for (int k = 0; k < 64; k++) {
                int c = start + k;
                Check.is("append(" + c + ")", k + 1, () -> x.append(c));
            }
        }
    }

    private static void newLength() {
        SondeStations x = new SondeStations();
        for (int k = 1; k <= 120; k++) {
            Check.is("append, for the " + k + "th time", k, () -> x.append('r'));
        }
        x.clearText();
        Check.is("append behind clearText()", 1, () -> x.append('r'));
    }

    private static void codeOutOfRange() {
        for (int c : new int[] {-1, 256, -256, 256 + 'N', 65536 + 'N', Integer.MIN_VALUE, Integer.MAX_VALUE}) {
            NEW.argument("append(" + c + ")", x -> x.append(c));
            ROOMY.argument("append(" + c + ")", x -> x.append(c));
        }
    }

    private static void fullText() {
        SondeStations x = Nets.typed(Nets.FULL_TEXT.substring(1));
        Check.is("append to 119", 120, () -> x.append('r'));
        Check.state("append to 120", () -> x.append('r'));
        Check.state("append to 120 again", () -> x.append('r'));
        FULL.state("append('r')", y -> y.append('r'));
        FULL.state("append(0)", y -> y.append(0));
        FULL.state("append(255)", y -> y.append(255));
    }

    private static void codeBeforeFullText() {
        FULL.argument("append(-1)", x -> x.append(-1));
        FULL.argument("append(256)", x -> x.append(256));
    }

    // ---- 3: clearText

    private static void emptied() {
        SondeStations x = Nets.full();
        x.clearText();
        Check.is("errorPosition()", 0, x::errorPosition);
        Check.is("clearText()", 0, x::clearText);
        Nets.type(x, "N");
        Check.is("nothing of the text before is left", -1, x::errorPosition);
        String emptied = Nets.look(emptiedFull());
        Check.same("the net stays", emptied, Nets.look(Nets.full()));
        Check.is("the slots stay", 39, () -> emptiedFull().restore(1));
        Check.is("what is remembered stays", 13, () -> emptiedFull().undo());
    }

    private static SondeStations emptiedFull() {
        SondeStations x = Nets.full();
        x.clearText();
        return x;
    }

    private static void previousLength() {
        for (int length : new int[] {0, 1, 2, 119, 120}) {
            SondeStations x = Nets.typed(Nets.FULL_TEXT.substring(0, length));
            Check.is("clearText() of " + length, length, x::clearText);
            Check.is("clearText() again", 0, x::clearText);
        }
    }

    // ---- 4: errorPosition

    private static void error(String text, int due) {
        Check.is("errorPosition() of \"" + text + "\"", due, () -> Nets.typed(text).errorPosition());
    }

    private static void textsThatAreNets() {
        String[] nets = {"N", "Ns00001000", "Ns99155999", "Nf000001", "Nf992030", "Nw0+00", "Nw0-00", "Nw3+20",
            "Nw3-20", "Nd0000", "Nd4999", "Nr1", "Nr9", "Nr1r9d4000f101010w2-09s50095501", Nets.FULL_TEXT};
        for (String net : nets) {
            error(net, SondeStations.NONE);
        }
    }

    /** A text; the characters that may follow it; whether it is a net with each of them. */
    private record Place(String before, String allowed, boolean net) {
    }

    private static final Place[] PLACES = {new Place("", "N", true), new Place("N", FIRST_OF_COMMANDS, false),
        new Place("Ns", DIGITS, false), new Place("Ns9", DIGITS, false), new Place("Ns99", "01", false),
        new Place("Ns990", DIGITS, false), new Place("Ns991", "012345", false), new Place("Ns9915", "12345", false),
        new Place("Ns99155", DIGITS, false), new Place("Ns991559", DIGITS, false),
        new Place("Ns9915599", DIGITS, true), new Place("Ns99155999", FIRST_OF_COMMANDS, false),
        new Place("Nf", DIGITS, false), new Place("Nf0", DIGITS, false), new Place("Nf00", "012", false),
        new Place("Nf000", DIGITS, false), new Place("Nf001", DIGITS, false), new Place("Nf002", "0", false),
        new Place("Nf0000", "0123", false), new Place("Nf0020", "0123", false),
        new Place("Nf00200", "123456789", true), new Place("Nf00201", DIGITS, true),
        new Place("Nf00202", DIGITS, true), new Place("Nf00203", "0", true),
        new Place("Nf002030", FIRST_OF_COMMANDS, false), new Place("Nw", "0123", false), new Place("Nw3", "+-", false),
        new Place("Nw3+", "012", false), new Place("Nw3-", "012", false), new Place("Nw3+0", DIGITS, true),
        new Place("Nw3-0", DIGITS, true), new Place("Nw3+1", DIGITS, true), new Place("Nw3-1", DIGITS, true),
        new Place("Nw3+2", "0", true), new Place("Nw3-2", "0", true), new Place("Nw3-20", FIRST_OF_COMMANDS, false),
        new Place("Nd", "01234", false), new Place("Nd4", DIGITS, false), new Place("Nd49", DIGITS, false),
        new Place("Nd499", DIGITS, true), new Place("Nd4999", FIRST_OF_COMMANDS, false),
        new Place("Nr", "123456789", true), new Place("Nr9", FIRST_OF_COMMANDS, false)};

    private static void everyCharacterAtEveryPlace() {
        for (Place place : PLACES) {
            for (char c = 0; c < 256; c++) {
                boolean allowed = place.allowed.indexOf(c) >= 0;
                int length = place.before.length();
                error(place.before + c, !allowed ? length : place.net ? SondeStations.NONE : length + 1);
                if (!allowed) {
                    error(place.before + c + "r1", length);
                }
            }
        }
    }

    private static void endsTooSoon() {
        error("", 0);
        String[] commands = {"s99155999", "f992030", "w3-20", "d4999", "r9"};
        for (String command : commands) {
            for (int left = 1; left < command.length(); left++) {
                error("N" + command.substring(0, left), 1 + left);
                error("Nw0+05" + command.substring(0, left), 6 + left);
            }
        }
        error(Nets.FULL_TEXT.substring(0, 119), 119);
        for (String command : commands) {
            for (int left = 1; left < command.length(); left++) {
                int before = 119 - left;
                String fill = before % 2 == 0 ? "" : "w0-05";
                fill += "r1".repeat((before - fill.length()) / 2);
                error("N" + fill + command.substring(0, left), 120);
            }
        }
    }

    /** What stood in the text before it was emptied does not go on behind its end. */
    private static void endsBeforeAnOlderText() {
        String[] nets = {"Ns99155999r1", "Nf992030r1", "Nw3-20r1", "Nw3+20r1", "Nd4999r1", "Nr9r1"};
        for (String net : nets) {
            for (int length = 0; length < net.length(); length++) {
                String part = net.substring(0, length);
                SondeStations x = Nets.typed(net);
                Nets.type(x, part);
                int due = Nets.typed(part).errorPosition();
                Check.is("errorPosition() of \"" + part + "\"", due, x::errorPosition);
                boolean ends = length == 1 || length == net.length() - 2;
                Check.is("and again", ends ? SondeStations.NONE : length, x::errorPosition);
            }
        }
    }

    private static void anyNumberOfCommands() {
        for (int many = 0; many <= 59; many++) {
            error("N" + "r1".repeat(many), SondeStations.NONE);
            error("N" + "r1".repeat(many) + "N", 1 + 2 * many);
        }
        error("N" + "r1".repeat(59) + "r", 120);
        error("N" + "r1".repeat(59) + " ", 119);
    }

    private static void firstOfTwoErrors() {
        error("Nr0r0", 2);
        error("Nr1r0r0", 4);
        error("nN", 0);
        error("Nf002131", 5);
        error("Ns2016623059", 5);
    }

    // ---- 5: load

    private static SondeStations fullWith(String text) {
        SondeStations x = Nets.full();
        Nets.type(x, text);
        return x;
    }

    private static SondeStations fullAndLoaded(String text) {
        SondeStations x = fullWith(text);
        x.load();
        return x;
    }

    private static void asInANewObject() {
        Check.is("load() of N", 0, () -> fullWith("N").load());
        Check.same("N over a full net", Nets.everything(() -> fullAndLoaded("N")),
                Nets.everything(() -> Nets.typed("N")));
        String text = "Ns20151052f200002w1+03r7d0011";
        Check.same("a net over a full net", Nets.everything(() -> fullAndLoaded(text)),
                Nets.everything(() -> Nets.loaded(text)));
        Check.same("what its commands do", Nets.look(fullAndLoaded(text)), Nets.look(doneByHand()));
    }

    private static SondeStations doneByHand() {
        SondeStations x = new SondeStations();
        x.addStation(20, 15, 1, 5, 2);
        x.addFinder(20, 0, 2);
        x.wind(1, 3);
        x.run(7);
        x.deliver(0, 1, 1);
        return x;
    }

    private static void edges() {
        SondeStations x = new SondeStations();
        x.addStation(0, 0, 1, 0, 0);
        x.addStation(99, 15, 5, 99, 9);
        x.addFinder(0, 0, 1);
        x.addFinder(99, 20, 30);
        x.wind(0, 20);
        x.wind(3, -20);
        x.wind(2, 0);
        x.deliver(1, 99, 9);
        x.deliver(0, 1, 0);
        x.deliver(0, 0, 1);
        x.run(1);
        x.run(9);
        SondeStations y = Nets.typed("Ns00001000s99155999f000001f992030w0+20w3-20w2-00d1999d0010d0001r1r9");
        Check.is("load()", 0, y::load);
        Check.same("the edges of all ranges", Nets.look(y), Nets.look(x));
        Check.is("d4", 0, () -> Nets.typed("N" + "s00001000".repeat(5) + "d4010").load());
    }

    private static void nothingRememberedOrSaved() {
        for (String text : new String[] {"N", "Nr1", Nets.FULL_TEXT}) {
            Check.state("undo() behind load() of " + text, () -> fullAndLoaded(text).undo());
            Check.state("restore(0) behind load() of " + text, () -> fullAndLoaded(text).restore(0));
            Check.state("restore(1) behind load() of " + text, () -> fullAndLoaded(text).restore(1));
        }
        SondeStations x = fullAndLoaded("Nr1");
        x.run(1);
        Check.is("an action behind load()", 0, x::undo);
        Check.is("back to what was loaded", 1, () -> x.about(2));
        Check.is("a slot behind load()", 1, () -> x.save(0));
        Check.is("is filled again", 1, () -> x.restore(0));
        Check.state("and the other one is empty", () -> x.restore(1));
    }

    private static void textIsKept() {
        SondeStations x = Nets.typed(Nets.FULL_TEXT);
        Check.is("load()", 0, x::load);
        Check.is("load() again", 0, x::load);
        Check.is("one station each time", 1, () -> x.about(0));
        Check.state("still full", () -> x.append('r'));
        Check.is("clearText()", 120, x::clearText);
        SondeStations y = Nets.typed("Nr9");
        y.load();
        y.append('r');
        y.append('8');
        Check.is("a longer text", 0, y::load);
        Check.is("is loaded from its start", 17, () -> y.about(2));
    }

    private static void leftOut() {
        Check.is("none in N", 0, () -> Nets.typed("N").load());
        Check.is("none in a full text", 0, () -> Nets.typed(Nets.FULL_TEXT).load());
        Check.is("all of 23, without stations", 23, () -> Nets.typed("N" + "d0110".repeat(23)).load());
        String station = "s00001000";
        Check.is("five stations", 0, () -> Nets.typed("N" + station.repeat(5)).load());
        Check.is("six stations", 1, () -> Nets.typed("N" + station.repeat(6)).load());
        Check.is("13 stations", 8, () -> Nets.typed("N" + station.repeat(13)).load());
        Check.is("six finders", 0, () -> Nets.typed("N" + "f000001".repeat(6)).load());
        Check.is("seven finders", 1, () -> Nets.typed("N" + "f000001".repeat(7)).load());
        Check.is("17 finders", 11, () -> Nets.typed("N" + "f000001".repeat(17)).load());
        Check.is("eight deliveries", 0, () -> Nets.typed("N" + station + "d0010".repeat(8)).load());
        Check.is("nine deliveries", 1, () -> Nets.typed("N" + station + "d0010".repeat(9)).load());
        Check.is("nine, the first ones came", 0,
                () -> Nets.typed("N" + station + "d0010".repeat(8) + "r5d0010").load());
        Check.is("nine, not yet there", 1, () -> Nets.typed("N" + station + "d0010".repeat(8) + "r4d0010").load());
        Check.is("a delivery of nothing", 1, () -> Nets.typed("N" + station + "d0000").load());
        Check.is("a delivery to the second of one", 1, () -> Nets.typed("N" + station + "d1010").load());
        Check.is("a delivery before its station", 1, () -> Nets.typed("Nd0010" + station).load());
    }

    private static void theOthersAreDone() {
        SondeStations x = Nets.typed("Nd0010r2s10001000d0000d1010d0020w2+07r1");
        Check.is("load()", 3, x::load);
        Check.is("the watches behind", 3, () -> x.about(2));
        Check.is("the station behind", 10, () -> x.station(0, 0));
        Check.is("the delivery behind", 1, () -> x.about(10));
        Check.is("only it is paid", 4, () -> x.about(3));
        Check.is("the wind behind", 107, () -> x.windOf(2));
    }

    private static void notANet() {
        for (String text : new String[] {"", "n", "NN", "Nr", "Nr0", "Nw0+2", "Nr1 ", "N" + "r1".repeat(59) + "r"}) {
            Check.state("load() of \"" + text + "\"", () -> Nets.typed(text).load());
            new Refused(() -> fullWith(text)).state("load() of \"" + text + "\"", SondeStations::load);
        }
    }
}

import java.math.BigInteger;
import java.util.ArrayList;
import java.util.List;
import java.util.Random;
import java.util.function.Supplier;

/** The boundary cases that the promises 29 to 32 name: scripts, simulations and the save slots. */
public final class ScriptBoundaryTests {
    private static final Refused NEW = new Refused(SondeStations::new);
    private static final Refused ROOMY = new Refused(Nets::roomy);
    private static final Refused FULL = new Refused(Nets::full);

    private ScriptBoundaryTests() {
    }

    public static void main(String[] args) {
        scripts();
        scriptCommands();
        simulations();
        slots();
        Check.end("ScriptBoundaryTests");
    }

    private static void scripts() {
        Check.sentence(29, "`n`: number of commands, 1 to 3", ScriptBoundaryTests::numberOfCommands);
        Check.sentence(29, "`script`: the commands, a number of at most 5 * n digits (0 or more)",
                ScriptBoundaryTests::longestScripts);
        Check.sentence(29,
                "Throws `IllegalArgumentException` if n is out of range, or if script is negative or has more "
                + "than 5 * n digits", ScriptBoundaryTests::scriptOutOfRange);
        Check.sentence(29, "(with zeros before it, if it has fewer digits)", ScriptBoundaryTests::zerosBeforeIt);
        Check.sentence(29, "Returns the index, from 0, of the first command that fails; NONE if all succeed.",
                ScriptBoundaryTests::firstThatFails);
        Check.sentence(29, "Runs a script on a copy of the state.", () -> {
            FULL.quiet("run(40)", x -> x.runScript(1, 60040L));
            ROOMY.quiet("all that changes", x -> x.runScript(3, 301553101141360L));
            ROOMY.quiet("deliver, move, set", x -> x.runScript(3, 110992100052990L));
            ROOMY.quiet("one that fails", x -> x.runScript(3, 600400000060040L));
        });
    }

    private static void scriptCommands() {
        Check.sentence(29, "1 s g g k: deliver(s, gg, k).", ScriptBoundaryTests::scriptDelivers);
        Check.sentence(29, "2 s t 0 0: move(s, t).", ScriptBoundaryTests::scriptMoves);
        Check.sentence(29, "3 s h h z: change(s, hh, z).", ScriptBoundaryTests::scriptChanges);
        Check.sentence(29, "4 h v v 0: wind(h, vv - 20).", ScriptBoundaryTests::scriptWinds);
        Check.sentence(29, "5 w v v 0: set(w, vv).", ScriptBoundaryTests::scriptSets);
        Check.sentence(29, "6 0 0 n n: run(nn).", ScriptBoundaryTests::scriptRuns);
        Check.sentence(29, "7 s g g 0: succeeds if s has at least the gas gg.", ScriptBoundaryTests::scriptAsksForGas);
        Check.sentence(29, "8 s k k 0: succeeds if the stock of s has at least kk sondes.",
                ScriptBoundaryTests::scriptAsksForSondes);
        Check.sentence(29, "9 0 n n 0: succeeds if there were at most nn gaps so far.",
                ScriptBoundaryTests::scriptAsksForGaps);
        Check.sentence(29, "commands with stations that do not exist fail", ScriptBoundaryTests::scriptWithoutStation);
        Check.sentence(29, "and so does any other group (also one with another digit where a 0 is written)",
                ScriptBoundaryTests::otherGroups);
    }

    private static void simulations() {
        Check.sentence(30, "`m`: number of turns, 1 to 40", () -> {
            ROOMY.range("m", new int[] {1}, 0, 1, 40, (x, a) -> x.simulate(5L, a[0]));
            NEW.range("m", new int[] {1}, 0, 1, 40, (x, a) -> x.simulate(Long.MIN_VALUE, a[0]));
        });
        Check.sentence(30, "Throws `IllegalArgumentException` if m is out of range", () -> {
            FULL.argument("m 0", x -> x.simulate(0L, 0));
            FULL.argument("m 41", x -> x.simulate(0L, 41));
            FULL.argument("m 60", x -> x.simulate(0L, 60));
        });
        Check.sentence(30, "`seed`: any long", ScriptBoundaryTests::everySeed);
        Check.sentence(30, "(with long overflow)", ScriptBoundaryTests::everyNumberOfTurns);
        Check.sentence(30, "What would throw an exception is left out.", ScriptBoundaryTests::leftOutInSimulations);
        Check.sentence(30, "Returns 1000 * (the releases in them) + (the gaps in them).",
                ScriptBoundaryTests::onlyWhatIsInThem);
        Check.sentence(30, "Simulates m turns on a copy of the state.", () -> {
            for (long seed = 0; seed < 5; seed++) {
                long s = seed;
                FULL.quiet("simulate(" + seed + ", 40)", x -> x.simulate(s, 40));
                ROOMY.quiet("simulate(" + seed + ", 40)", x -> x.simulate(s, 40));
            }
        });
    }

    private static void slots() {
        Refused.CallWith save = (x, a) -> x.save(a[0]);
        Check.sentence(31, "`slot`: 0 or 1", () -> {
            Check.is("save(0)", 40, () -> Nets.full().save(0));
            Check.is("save(1)", 40, () -> Nets.full().save(1));
            Check.is("save(0) of a new object", 0, () -> new SondeStations().save(0));
        });
        Check.sentence(31, "Throws `IndexOutOfBoundsException` if there is no such save slot", () -> {
            noSuchSlot(NEW, save);
            noSuchSlot(FULL, save);
        });
        Check.sentence(31, "Stores the present state in a save slot.", ScriptBoundaryTests::twoSlots);
        Check.sentence(31, "Returns the watch of now.", ScriptBoundaryTests::savedAgain);

        Refused.CallWith restore = (x, a) -> x.restore(a[0]);
        Check.sentence(32, "`slot`: 0 or 1", () -> {
            Check.is("restore(0)", 9, () -> Nets.full().restore(0));
            Check.is("restore(1)", 39, () -> Nets.full().restore(1));
        });
        Check.sentence(32, "Throws `IndexOutOfBoundsException` if there is no such save slot", () -> {
            noSuchSlot(NEW, restore);
            noSuchSlot(FULL, restore);
        });
        Check.sentence(32, "Throws `IllegalStateException` if nothing has been saved in it since the last load",
                ScriptBoundaryTests::nothingSaved);
        Check.sentence(32, "and forgets all remembered states.", ScriptBoundaryTests::allForgotten);
        Check.sentence(32, "Replaces the state by the one in a save slot", ScriptBoundaryTests::wholeStateReplaced);
        Check.sentence(32, "The save slot keeps it.", ScriptBoundaryTests::slotKeepsIt);
    }

    private static void noSuchSlot(Refused objects, Refused.CallWith call) {
        for (int slot : new int[] {-1, 2, 3, 256, 65536, Integer.MIN_VALUE, Integer.MAX_VALUE}) {
            objects.index("slot " + slot, x -> call.on(x, new int[] {slot}));
        }
    }

    // ---- 29: runScript

    private static void succeeds(Supplier<SondeStations> maker, long... groups) {
        for (long group : groups) {
            Check.is("runScript(1, " + group + ")", SondeStations.NONE, () -> maker.get().runScript(1, group));
        }
    }

    private static void fails(Supplier<SondeStations> maker, long... groups) {
        for (long group : groups) {
            Check.is("runScript(1, " + group + ")", 0, () -> maker.get().runScript(1, group));
        }
    }

    private static void numberOfCommands() {
        for (int n : new int[] {0, 4, -1, 5, 65537, Integer.MIN_VALUE, Integer.MAX_VALUE}) {
            FULL.argument("n " + n, x -> x.runScript(n, 60001L));
            NEW.argument("n " + n, x -> x.runScript(n, 0L));
        }
        Check.is("one command", -1, () -> Nets.full().runScript(1, 60001L));
        Check.is("two commands", -1, () -> Nets.full().runScript(2, 6000160001L));
        Check.is("three commands", -1, () -> Nets.full().runScript(3, 600016000160001L));
    }

    private static void longestScripts() {
        Check.is("5 digits", 0, () -> Nets.full().runScript(1, 99999L));
        Check.is("10 digits", 0, () -> Nets.full().runScript(2, 9999999999L));
        Check.is("15 digits", 0, () -> Nets.full().runScript(3, 999999999999999L));
        Check.is("the first group does not grow by those behind it", 0, () -> paused().runScript(3, 600009999999999L));
        Check.is("nor do they make it less", 1, () -> paused().runScript(3, 600010000000000L));
        Check.is("the second group neither", 0, () -> paused().runScript(2, 6000099999L));
        Check.is("neither of them", 1, () -> paused().runScript(2, 6000100000L));
        Check.is("0 for one", 0, () -> Nets.full().runScript(1, 0L));
        Check.is("0 for two", 0, () -> Nets.full().runScript(2, 0L));
        Check.is("0 for three", 0, () -> Nets.full().runScript(3, 0L));
        Check.is("the last group is beyond an int", -1, () -> Nets.full().runScript(3, 600016000190990L));
        Check.is("one digit", 0, () -> Nets.full().runScript(1, 6L));
    }

    private static void scriptOutOfRange() {
        long[] tooLong = {100000L, 10000000000L, 1000000000000000L};
        for (int n = 1; n <= 3; n++) {
            int commands = n;
            for (long script : new long[] {tooLong[n - 1], 6 * tooLong[n - 1] + 1, -1L, -60001L, Long.MIN_VALUE,
                Long.MAX_VALUE, -tooLong[n - 1], tooLong[2]}) {
                FULL.argument("runScript(" + n + ", " + script + ")", x -> x.runScript(commands, script));
            }
        }
        // an int would take these for 60001 and 0
        FULL.argument("32 bits", x -> x.runScript(1, (1L << 32) + 60001L));
        FULL.argument("negative in 64 bits alone", x -> x.runScript(3, Long.MIN_VALUE + 60001L));
        NEW.argument("six digits", x -> x.runScript(1, 100000L));
    }

    private static void zerosBeforeIt() {
        Check.is("one group of two", 0, () -> Nets.full().runScript(2, 60001L));
        Check.is("one group of three", 0, () -> Nets.full().runScript(3, 60001L));
        Check.is("two groups of three", 0, () -> Nets.full().runScript(3, 6000160001L));
        Check.is("four digits", 0, () -> Nets.full().runScript(1, 6001L));
    }

    private static void firstThatFails() {
        long good = 60001L;
        long bad = 60000L;
        for (int k = 0; k < 8; k++) {
            long first = k % 2 == 0 ? good : bad;
            long second = k / 2 % 2 == 0 ? good : bad;
            long third = k / 4 == 0 ? good : bad;
            int due = first == bad ? 0 : second == bad ? 1 : third == bad ? 2 : SondeStations.NONE;
            long three = (first * 100000L + second) * 100000L + third;
            Check.is("runScript(3, " + three + ")", due, () -> Nets.full().runScript(3, three));
            int dueOfTwo = due == 2 ? SondeStations.NONE : due;
            long two = first * 100000L + second;
            Check.is("runScript(2, " + two + ")", dueOfTwo, () -> Nets.full().runScript(2, two));
        }
        // two moves of the one sonde: the second one finds it only behind the first
        SondeStations x = Nets.one(0, 1);
        x.addStation(1, 0, 1, 0, 0);
        Check.is("one behind the other", -1, () -> x.runScript(2, 2010021000L));
        Check.is("the other way round", 0, () -> x.runScript(2, 2100020100L));
        Check.is("twice the same", 1, () -> x.runScript(2, 2010020100L));
    }

    private static void scriptDelivers() {
        succeeds(Nets::roomy, 10001L, 10010L, 11999L, 10990L, 11009L);
        fails(Nets::roomy, 10000L, 11000L, 12010L);
        fails(Nets::full, 10010L, 14001L);
        Check.is("the eighth and a ninth", 1, () -> Nets.roomy().runScript(2, 1001010010L));
        Check.is("the gas comes", -1, () -> paused().runScript(3, 109996000570990L));
        Check.is("and not one more", 2, () -> paused().runScript(3, 109896000570990L));
        Check.is("the sondes come", -1, () -> paused().runScript(3, 100096000580090L));
        Check.is("and no more", 2, () -> paused().runScript(3, 100086000580090L));
    }

    /** A station at which nothing happens. */
    private static SondeStations paused() {
        SondeStations x = new SondeStations();
        x.addStation(50, 0, 1, 0, 0);
        return x;
    }

    private static void scriptMoves() {
        succeeds(Nets::roomy, 21000L);
        fails(Nets::roomy, 20000L, 21100L, 20200L, 22000L, 21900L);
        fails(Nets::full, 24000L, 24400L);
        Check.is("it is there", -1, () -> moving().runScript(2, 2010081030L));
        Check.is("but one", 1, () -> moving().runScript(2, 2010081040L));
    }

    private static SondeStations moving() {
        SondeStations x = paused();
        x.undo();
        x.addStation(50, 0, 1, 0, 2);
        x.addStation(50, 0, 1, 0, 2);
        return x;
    }

    private static void scriptChanges() {
        succeeds(Nets::roomy, 30001L, 30005L, 31151L, 31155L, 31091L);
        fails(Nets::roomy, 30000L, 30006L, 31150L, 31156L, 31159L, 31161L, 31991L);
        Check.is("the hours", -1, () -> paused().runScript(3, 300826000490010L));
        Check.is("a gap at hour 3", 2, () -> paused().runScript(3, 300826000490000L));
        Check.is("none before it", -1, () -> paused().runScript(3, 300826000390000L));
    }

    private static void scriptWinds() {
        succeeds(Nets::full, 40000L, 40400L, 43000L, 43400L, 41200L);
        fails(Nets::full, 40410L, 43410L, 43990L, 44000L, 44200L, 49200L);
    }

    private static void scriptSets() {
        succeeds(Nets::full, 50010L, 50300L, 51010L, 51050L, 52000L, 52990L, 53000L, 53990L, 54000L, 54990L);
        fails(Nets::full, 50000L, 50310L, 51000L, 51060L, 55010L, 59010L);
        Check.is("a delivery within one watch", -1, () -> paused().runScript(2, 5001010010L));
        Check.is("behind one watch it did not come", 2, () -> atOnce().runScript(3, 100106000170010L));
        Check.is("behind two it did", -1, () -> atOnce().runScript(3, 100106000270010L));
    }

    private static SondeStations atOnce() {
        SondeStations x = paused();
        x.set(0, 1);
        return x;
    }

    private static void scriptRuns() {
        for (int n = 0; n <= 99; n++) {
            int due = n >= 1 && n <= 40 ? SondeStations.NONE : 0;
            long script = 60000L + n;
            Check.is("runScript(1, " + script + ")", due, () -> Nets.full().runScript(1, script));
        }
        Check.is("40 gaps", -1, () -> Nets.one(0, 0).runScript(2, 6004090400L));
        Check.is("not fewer", 1, () -> Nets.one(0, 0).runScript(2, 6004090390L));
    }

    private static void scriptAsksForGas() {
        for (int gas : new int[] {0, 1, 50, 98, 99, 100, 999}) {
            for (int asked = 0; asked <= 99; asked++) {
                long script = 70000L + 10 * asked;
                int due = gas >= asked ? SondeStations.NONE : 0;
                Check.is("gas " + gas + ", runScript(1, " + script + ")", due,
                        () -> Nets.one(gas, 0).runScript(1, script));
            }
        }
    }

    private static void scriptAsksForSondes() {
        for (int sondes : new int[] {0, 1, 50, 98, 99}) {
            for (int asked = 0; asked <= 99; asked++) {
                long script = 80000L + 10 * asked;
                int due = sondes >= asked ? SondeStations.NONE : 0;
                Check.is("sondes " + sondes + ", runScript(1, " + script + ")", due,
                        () -> Nets.one(0, sondes).runScript(1, script));
            }
        }
        SondeStations x = Nets.one(9, 2);
        x.addFinder(50, 0, 1);
        x.run(2);
        x.change(0, 0, 1);
        x.run(1);
        Check.is("one with flights and one without", -1, () -> x.runScript(1, 80020L));
        Check.is("three", 0, () -> x.runScript(1, 80030L));
    }

    private static void scriptAsksForGaps() {
        for (int gaps : new int[] {0, 1, 12, 13, 40}) {
            SondeStations x = Nets.one(0, 0);
            if (gaps > 0) {
                x.run(gaps);
            }
            for (int asked = 0; asked <= 99; asked++) {
                long script = 90000L + 10 * asked;
                int due = gaps <= asked ? SondeStations.NONE : 0;
                Check.is(gaps + " gaps, runScript(1, " + script + ")", due, () -> x.runScript(1, script));
            }
        }
    }

    private static void scriptWithoutStation() {
        for (int s = 0; s <= 9; s++) {
            long at = 1000L * s;
            for (long group : new long[] {10010L + at, 30011L + at, 70000L + at, 80000L + at}) {
                int due = s < 2 ? SondeStations.NONE : 0;
                Check.is("of two, runScript(1, " + group + ")", due, () -> Nets.roomy().runScript(1, group));
                Check.is("of none, runScript(1, " + group + ")", 0, () -> new SondeStations().runScript(1, group));
            }
            long to = 21000L + 100L * s;
            int dueTo = s == 0 ? SondeStations.NONE : 0;
            Check.is("of two, runScript(1, " + to + ")", dueTo, () -> Nets.roomy().runScript(1, to));
            long from = 20000L + at;
            int dueFrom = s == 1 ? SondeStations.NONE : 0;
            Check.is("of two, runScript(1, " + from + ")", dueFrom, () -> Nets.roomy().runScript(1, from));
        }
        succeeds(Nets::full, 34011L, 74000L, 84000L);
        fails(Nets::full, 35011L, 75000L, 85000L);
        succeeds(SondeStations::new, 40000L, 50010L, 60001L, 90000L);
    }

    private static void otherGroups() {
        for (int digit = 1; digit <= 9; digit++) {
            fails(Nets::roomy, 21000L + digit, 21000L + 10 * digit, 42200L + digit, 54050L + digit,
                    60001L + 100 * digit, 60001L + 1000 * digit, 70000L + digit, 80000L + digit, 90990L + digit,
                    90990L + 1000 * digit);
        }
        for (long group = 0; group < 10000; group += 7) {
            fails(Nets::roomy, group);
        }
    }

    // ---- 30: simulate

    private static final BigInteger FACTOR = BigInteger.valueOf(6364136223846793005L);
    private static final BigInteger ADDEND = BigInteger.valueOf(1442695040888963407L);
    private static final BigInteger ALL_LONGS = BigInteger.ONE.shiftLeft(64);

    /** Does on an object what the turns of a simulation would do; returns what simulate has to answer. */
    private static int replay(SondeStations x, long seed, int m) {
        int releases = x.about(4);
        int gaps = x.about(5);
        BigInteger number = BigInteger.valueOf(seed);
        for (int k = 0; k < m; k++) {
            number = number.multiply(FACTOR).add(ADDEND).mod(ALL_LONGS);
            replayTurn(x, number.shiftRight(33).intValueExact());
        }
        return 1000 * (x.about(4) - releases) + x.about(5) - gaps;
    }

    private static String replayTurn(SondeStations x, int r) {
        int s = r / 8 % 5;
        return switch (r % 8) {
            case 0 -> Check.answer(() -> x.deliver(s, r / 64 % 40, r / 4096 % 5));
            case 1 -> Check.answer(() -> x.move(s, r / 64 % 5));
            case 2 -> Check.answer(() -> x.wind(r / 8 % 4, r / 64 % 41 - 20));
            case 3 -> Check.answer(() -> x.change(s, r / 64 % 16, 1 + r / 1024 % 5));
            default -> Check.answer(() -> x.run(1 + r / 8 % 4));
        };
    }

    private static List<Supplier<SondeStations>> makers() {
        List<Supplier<SondeStations>> makers = new ArrayList<>();
        makers.add(SondeStations::new);
        makers.add(Nets::small);
        makers.add(Nets::roomy);
        makers.add(Nets::full);
        return makers;
    }

    private static void simulated(Supplier<SondeStations> maker, long seed, int m) {
        int due = replay(maker.get(), seed, m);
        Check.is("simulate(" + seed + ", " + m + ")", due, () -> maker.get().simulate(seed, m));
    }

    private static void everySeed() {
        Random random = new Random(1);
        for (Supplier<SondeStations> maker : makers()) {
            for (long seed : new long[] {0L, 1L, -1L, 2L, Long.MIN_VALUE, Long.MAX_VALUE, Long.MIN_VALUE + 1,
                Long.MAX_VALUE - 1, 1L << 32, -1L << 32, Integer.MAX_VALUE, Integer.MIN_VALUE}) {
                simulated(maker, seed, 40);
            }
            for (int k = 0; k < 200; k++) {
                simulated(maker, random.nextLong(), 1 + random.nextInt(40));
            }
        }
    }

    private static void everyNumberOfTurns() {
        for (Supplier<SondeStations> maker : makers()) {
            for (int m = 1; m <= 40; m++) {
                simulated(maker, 9L * m, m);
                simulated(maker, Long.MIN_VALUE, m);
            }
        }
    }

    private static void leftOutInSimulations() {
        for (long seed = 0; seed < 50; seed++) {
            long s = seed;
            Check.is("without stations", 0, () -> new SondeStations().simulate(s, 40));
            simulated(() -> Nets.one(9, 0), seed, 40);
            simulated(ScriptBoundaryTests::eightOrders, seed, 40);
        }
    }

    /** Deliveries that take long: what is ordered more is refused. */
    private static SondeStations eightOrders() {
        SondeStations x = Nets.one(9, 9);
        x.set(0, 30);
        for (int k = 0; k < 8; k++) {
            x.deliver(0, 3, 1);
        }
        return x;
    }

    private static void onlyWhatIsInThem() {
        // the first of these turns lets watches go by: 1 to 4 of them
        SondeStations x = Nets.one(20, 99);
        x.run(40);
        SondeStations y = Nets.one(999, 99);
        y.run(40);
        for (long seed = 0; seed < 40; seed++) {
            long s = seed;
            int r = BigInteger.valueOf(seed).multiply(FACTOR).add(ADDEND).mod(ALL_LONGS).shiftRight(33).intValueExact();
            int watches = r % 8 < 4 ? 0 : 1 + r / 8 % 4;
            Check.is("gaps alone", watches, () -> x.simulate(s, 1));
            Check.is("releases alone", 1000 * watches, () -> y.simulate(s, 1));
        }
        Check.is("the gaps before", 20, () -> x.about(5));
        Check.is("the releases before", 40, () -> y.about(4));
    }

    // ---- 31, 32: save, restore

    private static void twoSlots() {
        SondeStations x = Nets.roomy();
        String now = Nets.look(x);
        x.save(0);
        x.run(40);
        x.set(1, 1);
        x.addStation(1, 1, 1, 1, 1);
        x.restore(1);
        Check.is("the other slot stays", 8, () -> x.about(2));
        x.restore(0);
        Check.same("what was saved", Nets.look(x), now);
        SondeStations y = new SondeStations();
        y.run(3);
        y.save(1);
        y.undo();
        Check.is("a slot stays behind undo", 3, () -> y.restore(1));
        Check.state("the other one is empty", () -> y.restore(0));
    }

    private static void savedAgain() {
        SondeStations x = new SondeStations();
        for (int k = 0; k < 20; k++) {
            int watch = k;
            Check.is("save(0)", watch, () -> x.save(0));
            Check.is("save(1)", watch, () -> x.save(1));
            x.run(1);
        }
        Check.is("the last one", 19, () -> x.restore(1));
        Check.is("of both", 19, () -> x.restore(0));
    }

    private static void nothingSaved() {
        NEW.state("restore(0)", x -> x.restore(0));
        NEW.state("restore(1)", x -> x.restore(1));
        for (int slot = 0; slot < 2; slot++) {
            int empty = slot;
            Refused oneSaved = new Refused(() -> {
                SondeStations x = Nets.small();
                x.save(1 - empty);
                x.run(3);
                return x;
            });
            oneSaved.state("restore(" + slot + "), only the other one is filled", x -> x.restore(empty));
            Refused loaded = new Refused(() -> {
                SondeStations x = Nets.full();
                x.load();
                x.run(1);
                return x;
            });
            loaded.state("restore(" + slot + ") behind load", x -> x.restore(empty));
        }
        SondeStations y = Nets.full();
        Nets.type(y, "Nr0");
        Check.state("load() of no net", y::load);
        Check.is("empties no slot", 9, () -> y.restore(0));
    }

    private static void allForgotten() {
        for (int slot = 0; slot < 2; slot++) {
            SondeStations x = Nets.full();
            x.restore(slot);
            Check.state("undo() behind restore(" + slot + ")", x::undo);
            int now = x.about(2);
            for (int k = 0; k < 16; k++) {
                x.run(1);
            }
            for (int left = 13; left >= 0; left--) {
                int due = left;
                Check.is("undo()", due, x::undo);
            }
            Check.state("14 of them", x::undo);
            Check.is("the watch", now + 2, () -> x.about(2));
        }
    }

    private static void wholeStateReplaced() {
        String saved = Nets.look(Nets.full());
        for (int slot = 0; slot < 2; slot++) {
            int asked = slot;
            SondeStations x = Nets.full();
            x.save(slot);
            x.run(5);
            x.wind(0, 20);
            x.set(2, 99);
            x.change(0, 0, 5);
            Check.is("restore(" + slot + ")", 40, () -> x.restore(asked));
            Check.same("the state behind restore(" + slot + ")", Nets.look(x), saved);
        }
        SondeStations z = Nets.full();
        z.restore(0);
        Check.is("the watch of slot 0", 9, () -> z.about(2));
        Check.is("no delivery on the way then", 0, () -> z.about(10));
        Check.is("the text stays", 120, z::clearText);
    }

    private static void slotKeepsIt() {
        SondeStations x = Nets.full();
        for (int k = 0; k < 2; k++) {
            Check.is("restore(0)", 9, () -> x.restore(0));
            x.run(7);
            x.change(0, 0, 1);
            x.set(2, 99);
            x.wind(0, -20);
        }
        Check.is("restore(0) once more", 9, () -> x.restore(0));
        Check.is("its setting", 2, () -> x.setting(2));
        Check.is("its wind", 100, () -> x.windOf(0));
        Check.is("its hours", 15, () -> x.station(0, 1));
        Check.is("the other slot", 39, () -> x.restore(1));
    }
}

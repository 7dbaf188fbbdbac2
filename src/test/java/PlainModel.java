import java.util.ArrayDeque;
import java.util.ArrayList;
import java.util.Comparator;
import java.util.Deque;
import java.util.List;
import java.util.regex.Matcher;
import java.util.regex.Pattern;
import java.util.stream.IntStream;

/**
 * The document once more, in other ways than the program's: every sonde and every delivery is an object of its own,
 * each state is copied whole, the text is checked by a regular expression, what is lacking is found by trying.
 */
final class PlainModel {
    private static final Pattern NET = Pattern.compile("N(s[0-9]{2}(0[0-9]|1[0-5])[1-5][0-9]{2}[0-9]"
            + "|f[0-9]{2}([01][0-9]|20)(0[1-9]|[12][0-9]|30)|w[0-3][+-]([01][0-9]|20)|d[0-4][0-9]{2}[0-9]|r[1-9])*",
            Pattern.DOTALL);

    private record Station(int place, int hours, int size, int gas, int releases, int gaps) {
    }

    private record Finder(int place, int reach, int delay, int found) {
    }

    /** A sonde: in the stock of the station if its arrival is -1, otherwise on the way to it. */
    private record Sonde(int station, int flights, int arrival) {
    }

    private record Delivery(int arrival, int station, int gas, int sondes) {
    }

    private record Gap(int watch, int station, int reason) {
    }

    private static final class State {
        final List<Station> stations = new ArrayList<>();
        final List<Finder> finders = new ArrayList<>();
        final List<Sonde> sondes = new ArrayList<>();
        final List<Delivery> deliveries = new ArrayList<>();
        final List<Gap> gaps = new ArrayList<>();
        int[] winds = new int[4];
        int[] settings = {4, 3, 2, 20, 5};
        int now;
        int paid;
        int lost;
        int came;
        int scrapped;

        State copy() {
            State c = new State();
            c.stations.addAll(stations);
            c.finders.addAll(finders);
            c.sondes.addAll(sondes);
            c.deliveries.addAll(deliveries);
            c.gaps.addAll(gaps);
            c.winds = winds.clone();
            c.settings = settings.clone();
            c.now = now;
            c.paid = paid;
            c.lost = lost;
            c.came = came;
            c.scrapped = scrapped;
            return c;
        }

        int releases() {
            return stations.stream().mapToInt(Station::releases).sum();
        }

        void giveGas(int s, int gas) {
            Station t = stations.get(s);
            stations.set(s, new Station(t.place, t.hours, t.size, t.gas + gas, t.releases, t.gaps));
        }

        List<Sonde> stockOf(int s) {
            return sondes.stream().filter(o -> o.station == s && o.arrival < 0)
                    .sorted(Comparator.comparingInt(o -> -o.flights)).toList();
        }

        List<Sonde> onTheWay() {
            return sondes.stream().filter(o -> o.arrival >= 0).sorted(Comparator.comparingInt(Sonde::arrival)).toList();
        }

        void arrive() {
            for (Delivery d : deliveries.stream().filter(d -> d.arrival == now).toList()) {
                deliveries.remove(d);
                giveGas(d.station, d.gas);
                for (int k = 0; k < d.sondes; k++) {
                    sondes.add(new Sonde(d.station, 0, -1));
                }
            }
            for (int k = 0; k < sondes.size(); k++) {
                Sonde o = sondes.get(k);
                if (o.arrival == now) {
                    sondes.set(k, new Sonde(o.station, o.flights, -1));
                    came++;
                    paid += settings[4];
                }
            }
        }

        int plan(int s) {
            Station t = stations.get(s);
            if ((t.hours & (1 << (now % 4))) == 0) {
                return 0;
            }
            return t.gas < t.size ? 2 : stockOf(s).isEmpty() ? 3 : 1;
        }

        void watch() {
            arrive();
            for (int s = 0; s < stations.size(); s++) {
                int plan = plan(s);
                Station t = stations.get(s);
                if (plan >= 2) {
                    gaps.add(new Gap(now, s, plan - 1));
                    stations.set(s, new Station(t.place, t.hours, t.size, t.gas, t.releases, t.gaps + 1));
                } else if (plan == 1) {
                    stations.set(s, new Station(t.place, t.hours, t.size, t.gas - t.size, t.releases + 1, t.gaps));
                    Sonde up = stockOf(s).get(0);
                    sondes.remove(up);
                    fly(landing(s, now % 4), up.flights + 1);
                }
            }
            now++;
        }

        void fly(int place, int flights) {
            int f = place < 0 ? -1 : finds(place);
            if (f < 0) {
                lost++;
                return;
            }
            Finder g = finders.get(f);
            finders.set(f, new Finder(g.place, g.reach, g.delay, g.found + 1));
            if (flights >= settings[1]) {
                scrapped++;
            } else {
                sondes.add(new Sonde(sendsTo(f), flights, now + g.delay));
            }
        }

        int landing(int s, int hour) {
            int place = stations.get(s).place + winds[hour] * stations.get(s).size;
            return place < 0 || place > 99 ? -1 : place;
        }

        int finds(int place) {
            return IntStream.range(0, finders.size()).boxed()
                    .filter(f -> Math.abs(finders.get(f).place - place) <= finders.get(f).reach)
                    .min(Comparator.comparingInt(f -> Math.abs(finders.get(f).place - place))).orElse(-1);
        }

        int sendsTo(int f) {
            return IntStream.range(0, stations.size()).boxed()
                    .min(Comparator.comparingInt(s -> Math.abs(stations.get(s).place - finders.get(f).place)))
                    .orElse(-1);
        }

        void needStation(long s) {
            if (s < 0 || s >= stations.size()) {
                throw new IndexOutOfBoundsException();
            }
        }

        int addStation(long place, long hours, long size, long gas, long count) {
            need(place, 0, 99);
            need(hours, 0, 15);
            need(size, 1, 5);
            need(gas, 0, 999);
            need(count, 0, 99);
            allow(stations.size() < 5);
            stations.add(new Station((int) place, (int) hours, (int) size, (int) gas, 0, 0));
            for (int k = 0; k < count; k++) {
                sondes.add(new Sonde(stations.size() - 1, 0, -1));
            }
            return stations.size() - 1;
        }

        int addFinder(long place, long reach, long delay) {
            need(place, 0, 99);
            need(reach, 0, 20);
            need(delay, 1, 30);
            allow(finders.size() < 6);
            finders.add(new Finder((int) place, (int) reach, (int) delay, 0));
            return finders.size() - 1;
        }

        int wind(long hour, long v) {
            need(hour, 0, 3);
            need(v, -20, 20);
            int previous = winds[(int) hour];
            winds[(int) hour] = (int) v;
            return previous + 100;
        }

        int change(long s, long hours, long size) {
            needStation(s);
            need(hours, 0, 15);
            need(size, 1, 5);
            Station t = stations.get((int) s);
            stations.set((int) s, new Station(t.place, (int) hours, (int) size, t.gas, t.releases, t.gaps));
            return t.hours;
        }

        int deliver(long s, long gas, long count) {
            needStation(s);
            need(gas, 0, 999);
            need(count, 0, 99);
            allow(gas + count > 0 && deliveries.size() < 8);
            deliveries.add(new Delivery(now + settings[0], (int) s, (int) gas, (int) count));
            int price = (int) (gas * settings[2] + count * settings[3]);
            paid += price;
            return price;
        }

        int move(long s, long to) {
            needStation(s);
            needStation(to);
            allow(s != to && !stockOf((int) s).isEmpty());
            Sonde o = stockOf((int) s).get(0);
            sondes.remove(o);
            sondes.add(new Sonde((int) to, o.flights, -1));
            return o.flights;
        }

        int run(long n) {
            need(n, 1, 40);
            int before = releases();
            for (int k = 0; k < n; k++) {
                watch();
            }
            return releases() - before;
        }

        int set(long what, long v) {
            need(what, 0, 4);
            need(v, what < 2 ? 1 : 0, what == 0 ? 30 : what == 1 ? 5 : 99);
            int previous = settings[(int) what];
            settings[(int) what] = (int) v;
            return previous;
        }

        /** Does a call by its name; used for scripts, simulations and texts too. */
        int act(String name, long... a) {
            return switch (name) {
                case "addStation" -> addStation(a[0], a[1], a[2], a[3], a[4]);
                case "addFinder" -> addFinder(a[0], a[1], a[2]);
                case "wind" -> wind(a[0], a[1]);
                case "change" -> change(a[0], a[1], a[2]);
                case "deliver" -> deliver(a[0], a[1], a[2]);
                case "move" -> move(a[0], a[1]);
                case "run" -> run(a[0]);
                case "set" -> set(a[0], a[1]);
                default -> throw new UnsupportedOperationException(name);
            };
        }

        boolean acts(String name, long... a) {
            try {
                act(name, a);
                return true;
            } catch (IndexOutOfBoundsException | IllegalArgumentException | IllegalStateException e) {
                return false;
            }
        }
    }

    private State state = new State();
    private final StringBuilder text = new StringBuilder();
    private final Deque<State> past = new ArrayDeque<>();
    private State[] slots = new State[2];

    private static void need(long v, long low, long high) {
        if (v < low || v > high) {
            throw new IllegalArgumentException();
        }
    }

    private static void allow(boolean allowed) {
        if (!allowed) {
            throw new IllegalStateException();
        }
    }

    int call(String name, long... a) {
        switch (name) {
            case "append":
                need(a[0], 0, 255);
                allow(text.length() < 120);
                text.append((char) a[0]);
                return text.length();
            case "clearText":
                int length = text.length();
                text.setLength(0);
                return length;
            case "errorPosition":
                return errorPosition();
            case "load":
                allow(errorPosition() < 0);
                return load();
            case "undo":
                allow(!past.isEmpty());
                state = past.pop();
                return past.size();
            case "save":
                needSlot(a[0]);
                slots[(int) a[0]] = state.copy();
                return state.now;
            case "restore":
                needSlot(a[0]);
                allow(slots[(int) a[0]] != null);
                state = slots[(int) a[0]].copy();
                past.clear();
                return state.now;
            case "addStation", "addFinder", "wind", "change", "deliver", "move", "run", "set":
                State before = state.copy();
                int answer = state.act(name, a);
                past.push(before);
                if (past.size() > 14) {
                    past.removeLast();
                }
                return answer;
            default:
                return ask(name, a);
        }
    }

    private static void needSlot(long slot) {
        if (slot != 0 && slot != 1) {
            throw new IndexOutOfBoundsException();
        }
    }

    private boolean canBegin(String part) {
        Matcher matcher = NET.matcher(part);
        return matcher.matches() || matcher.hitEnd();
    }

    private int errorPosition() {
        if (NET.matcher(text).matches()) {
            return -1;
        }
        int good = 0;
        while (good < text.length() && canBegin(text.substring(0, good + 1))) {
            good++;
        }
        return good;
    }

    private int load() {
        state = new State();
        past.clear();
        slots = new State[2];
        int leftOut = 0;
        Matcher m = Pattern.compile("[sfwdr][0-9+-]*").matcher(text);
        while (m.find()) {
            String c = m.group();
            boolean done = switch (c.charAt(0)) {
                case 's' -> state.acts("addStation", part(c, 1, 3), part(c, 3, 5), part(c, 5, 6), part(c, 6, 8),
                        part(c, 8, 9));
                case 'f' -> state.acts("addFinder", part(c, 1, 3), part(c, 3, 5), part(c, 5, 7));
                case 'w' -> state.acts("wind", part(c, 1, 2), part(c, 2, 5));
                case 'd' -> state.acts("deliver", part(c, 1, 2), part(c, 2, 4), part(c, 4, 5));
                default -> state.acts("run", part(c, 1, 2));
            };
            leftOut += done ? 0 : 1;
        }
        return leftOut;
    }

    private static long part(String command, int from, int to) {
        return Long.parseLong(command.substring(from, to));
    }

    private int ask(String name, long[] a) {
        State s = state;
        switch (name) {
            case "about":
                need(a[0], 0, 11);
                int inStocks = s.sondes.size() - s.onTheWay().size();
                return new int[] {s.stations.size(), s.finders.size(), s.now, s.paid, s.releases(), s.gaps.size(),
                    s.lost, s.came, s.scrapped, s.onTheWay().size(), s.deliveries.size(), inStocks}[(int) a[0]];
            case "station":
                s.needStation(a[0]);
                need(a[1], 0, 7);
                Station t = s.stations.get((int) a[0]);
                State soon = s.copy();
                soon.arrive();
                return new int[] {t.place, t.hours, t.size, t.gas, s.stockOf((int) a[0]).size(), t.releases, t.gaps,
                    soon.plan((int) a[0])}[(int) a[1]];
            case "stock":
                s.needStation(a[0]);
                need(a[1], 0, 4);
                return (int) s.stockOf((int) a[0]).stream().filter(o -> o.flights == a[1]).count();
            case "finder":
                if (a[0] < 0 || a[0] >= s.finders.size()) {
                    throw new IndexOutOfBoundsException();
                }
                need(a[1], 0, 4);
                Finder f = s.finders.get((int) a[0]);
                return new int[] {f.place, f.reach, f.delay, f.found, s.sendsTo((int) a[0])}[(int) a[1]];
            case "back":
                need(a[0], 0, Long.MAX_VALUE);
                need(a[1], 0, 2);
                if (a[0] >= s.onTheWay().size()) {
                    return -1;
                }
                Sonde o = s.onTheWay().get((int) a[0]);
                return new int[] {o.arrival, o.station, o.flights}[(int) a[1]];
            case "gap":
                need(a[0], 0, Long.MAX_VALUE);
                need(a[1], 0, 2);
                if (a[0] >= Math.min(12, s.gaps.size())) {
                    return -1;
                }
                Gap g = s.gaps.get(s.gaps.size() - 1 - (int) a[0]);
                return new int[] {g.watch, g.station, g.reason}[(int) a[1]];
            case "windOf":
                need(a[0], 0, 3);
                return 100 + s.winds[(int) a[0]];
            case "setting":
                need(a[0], 0, 4);
                return s.settings[(int) a[0]];
            case "landing":
                s.needStation(a[0]);
                need(a[1], 0, 3);
                return s.landing((int) a[0], (int) a[1]);
            case "finds":
                need(a[0], 0, 99);
                return s.finds((int) a[0]);
            default:
                return foresee(name, a);
        }
    }

    private int foresee(String name, long[] a) {
        State c = state.copy();
        switch (name) {
            case "coming":
                need(a[0], 1, 60);
                need(a[1], 0, 3);
                IntStream.range(0, (int) a[0]).forEach(k -> c.watch());
                return new int[] {c.releases() - state.releases(), c.gaps.size() - state.gaps.size(),
                    c.paid - state.paid, c.sondes.size() - c.onTheWay().size()}[(int) a[1]];
            case "firstGap":
                IntStream.range(0, 60).forEach(k -> c.watch());
                return c.gaps.size() == state.gaps.size() ? -1 : c.gaps.get(state.gaps.size()).watch;
            case "lacks":
                c.needStation(a[0]);
                need(a[1], 1, 60);
                int more = 0;
                while (gapByGas(more, (int) a[0], (int) a[1])) {
                    more++;
                }
                return more;
            case "ifDelivered":
                c.needStation(a[0]);
                need(a[1], 0, 999);
                need(a[2], 0, 99);
                need(a[3], 1, 60);
                c.act("deliver", a[0], a[1], a[2]);
                IntStream.range(0, (int) a[3]).forEach(k -> c.watch());
                return c.gaps.size() - state.gaps.size();
            case "runScript":
                need(a[0], 1, 3);
                need(a[1], 0, Long.MAX_VALUE);
                String digits = String.valueOf(a[1]);
                need(digits.length(), 1, 5 * a[0]);
                digits = "0".repeat(5 * (int) a[0] - digits.length()) + digits;
                for (int k = 0; k < a[0]; k++) {
                    if (!script(c, digits.substring(5 * k, 5 * k + 5))) {
                        return k;
                    }
                }
                return -1;
            case "simulate":
                need(a[1], 1, 40);
                simulate(c, a[0], (int) a[1]);
                return 1000 * (c.releases() - state.releases()) + c.gaps.size() - state.gaps.size();
            default:
                throw new UnsupportedOperationException(name);
        }
    }

    private boolean gapByGas(int more, int s, int n) {
        State c = state.copy();
        c.giveGas(s, more);
        IntStream.range(0, n).forEach(k -> c.watch());
        return c.gaps.stream().skip(state.gaps.size()).anyMatch(g -> g.station == s && g.reason == 1);
    }

    private static boolean script(State c, String d) {
        long s = part(d, 1, 2);
        boolean there = s < c.stations.size();
        long middle = part(d, 2, 4);
        return switch (d.charAt(0)) {
            case '1' -> c.acts("deliver", s, middle, part(d, 4, 5));
            case '2' -> d.endsWith("00") && c.acts("move", s, part(d, 2, 3));
            case '3' -> c.acts("change", s, middle, part(d, 4, 5));
            case '4' -> d.endsWith("0") && c.acts("wind", s, middle - 20);
            case '5' -> d.endsWith("0") && c.acts("set", s, middle);
            case '6' -> d.startsWith("600") && c.acts("run", part(d, 3, 5));
            case '7' -> d.endsWith("0") && there && c.stations.get((int) s).gas >= middle;
            case '8' -> d.endsWith("0") && there && c.stockOf((int) s).size() >= middle;
            case '9' -> d.startsWith("90") && d.endsWith("0") && c.gaps.size() <= middle;
            default -> false;
        };
    }

    private static void simulate(State c, long seed, int m) {
        long x = seed;
        for (int k = 0; k < m; k++) {
            x = x * 6364136223846793005L + 1442695040888963407L;
            int r = (int) (x >>> 33);
            int s = r / 8 % 5;
            switch (r % 8) {
                case 0 -> c.acts("deliver", s, r / 64 % 40, r / 4096 % 5);
                case 1 -> c.acts("move", s, r / 64 % 5);
                case 2 -> c.acts("wind", r / 8 % 4, r / 64 % 41 - 20);
                case 3 -> c.acts("change", s, r / 64 % 16, 1 + r / 1024 % 5);
                default -> c.acts("run", 1 + r / 8 % 4);
            }
        }
    }
}

import java.util.function.Supplier;

/** Calls that are refused: each has to throw its exception, and to leave everything as it was. */
final class Refused {
    interface Call {
        int on(SondeStations x);
    }

    interface CallWith {
        int on(SondeStations x, int[] a);
    }

    private final Supplier<SondeStations> maker;
    private final String before;

    /** The calls are made on objects of this maker. */
    Refused(Supplier<SondeStations> maker) {
        this.maker = maker;
        this.before = Nets.everything(maker);
    }

    void index(String what, Call call) {
        refused(what, "throws.IndexOutOfBoundsException", call);
    }

    void argument(String what, Call call) {
        refused(what, "throws.IllegalArgumentException", call);
    }

    void state(String what, Call call) {
        refused(what, "throws.IllegalStateException", call);
    }

    private void refused(String what, String exception, Call call) {
        SondeStations x = maker.get();
        Check.same(what, Check.answer(() -> call.on(x)), exception);
        sameBehind(what, call);
    }

    /** A call that answers, and leaves everything as it was, too. */
    void quiet(String what, Call call) {
        SondeStations x = maker.get();
        Check.works(what, () -> call.on(x));
        sameBehind(what, call);
    }

    private void sameBehind(String what, Call call) {
        String behind = Nets.everything(() -> {
            SondeStations x = maker.get();
            Check.answer(() -> call.on(x));
            return x;
        });
        Check.same(what + " changes something", firstDifference(before, behind), "");
    }

    private static String firstDifference(String one, String other) {
        String[] lines = one.split("\n");
        String[] others = other.split("\n");
        for (int k = 0; k < Math.min(lines.length, others.length); k++) {
            if (!lines[k].equals(others[k])) {
                return lines[k] + " became " + others[k];
            }
        }
        return lines.length == others.length ? "" : "a line more or less";
    }

    /** The argument k may be low to high: the edges work, what is just outside and what is far away is refused. */
    void range(String what, int[] good, int k, int low, int high, CallWith call) {
        for (int v : new int[] {low, low + 1, high - 1, high}) {
            SondeStations x = maker.get();
            Check.works(what + " = " + v, () -> call.on(x, with(good, k, v)));
        }
        for (int v : new int[] {low - 1, high + 1, low - 65536, low + 65536, Integer.MIN_VALUE, Integer.MAX_VALUE}) {
            argument(what + " = " + v, x -> call.on(x, with(good, k, v)));
        }
    }

    /** The first argument is a station: it has to be one of so many. */
    void stations(String what, int count, CallWith call, int... rest) {
        for (int s : new int[] {-1, count, 5, Integer.MIN_VALUE, Integer.MAX_VALUE}) {
            if (s < 0 || s >= count) {
                int[] a = new int[rest.length + 1];
                System.arraycopy(rest, 0, a, 1, rest.length);
                a[0] = s;
                index(what + " of station " + s, x -> call.on(x, a));
            }
        }
    }

    private static int[] with(int[] good, int k, int v) {
        int[] a = good.clone();
        a[k] = v;
        return a;
    }
}

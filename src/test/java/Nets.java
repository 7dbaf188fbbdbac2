import java.util.function.Supplier;

/** Objects to begin a test with, and ways to look at all that an object holds. */
final class Nets {
    /** A net of 120 characters. */
    static final String FULL_TEXT = "N" + "w0+05".repeat(22) + "s00001000";
    static final int MOST_REMEMBERED = 14;

    private Nets() {
    }

    static void type(SondeStations x, String text) {
        x.clearText();
        for (char c : text.toCharArray()) {
            x.append(c);
        }
    }

    static SondeStations typed(String text) {
        SondeStations x = new SondeStations();
        type(x, text);
        return x;
    }

    static SondeStations loaded(String text) {
        SondeStations x = typed(text);
        x.load();
        return x;
    }

    /**
     * A station at 20 that releases at every hour, with 5 gas and 2 sondes, and a finder beside it with the delay 2.
     * Watch 0 and 1 release the two sondes; from watch 2 on one comes back in each watch and goes up again; in watch 4
     * the first one is scrapped behind its third flight; in watch 5 and 6 there is no gas, and one sonde lies there.
     */
    static SondeStations small() {
        SondeStations x = new SondeStations();
        x.addStation(20, 15, 1, 5, 2);
        x.addFinder(20, 0, 2);
        return x;
    }

    /** One station of size 1 at the place 50 that releases at every hour, with so much gas and so many sondes. */
    static SondeStations one(int gas, int sondes) {
        SondeStations x = new SondeStations();
        x.addStation(50, 15, 1, gas, sondes);
        return x;
    }

    /** Of five stations, at this one lies a sonde of each number of flights, 0 to 4; ten times one came back. */
    static SondeStations oneOfEachKindAt(int there) {
        SondeStations x = new SondeStations();
        for (int s = 0; s < 5; s++) {
            x.addStation(20 * s, 15, 1, 99, 1);
            x.addFinder(20 * s, 0, 1);
        }
        x.set(1, 5);
        // station s stops behind s watches, in each of which its sonde flew
        for (int s = 0; s < 5; s++) {
            x.change(s, 0, 1);
            x.run(1);
        }
        for (int s = 0; s < 5; s++) {
            if (s != there) {
                x.move(s, there);
            }
        }
        return x;
    }

    /** Something of all, also on the way, and room for more of all; 14 states are remembered, both slots are filled. */
    static SondeStations roomy() {
        SondeStations x = small();
        type(x, "Ns40150305r2");
        x.addStation(80, 6, 2, 30, 12);
        x.addFinder(85, 10, 3);
        x.run(3);
        x.save(0);
        x.wind(1, 2);
        x.run(5);
        x.save(1);
        x.set(4, 7);
        x.set(0, 3);
        for (int k = 1; k <= 7; k++) {
            x.deliver(k % 2, k, 2);
        }
        x.run(1);
        x.set(3, 31);
        x.change(0, 11, 1);
        x.wind(3, -1);
        return x;
    }

    /**
     * Full of all: 120 characters, 5 stations, the last one without sondes, 6 finders, 8 deliveries, 12 gaps and more,
     * sondes on the way to several stations, 14 states, both slots.
     */
    static SondeStations full() {
        SondeStations x = typed(FULL_TEXT);
        x.addStation(10, 15, 1, 80, 9);
        x.addStation(30, 5, 2, 80, 19);
        x.addStation(50, 10, 3, 150, 9);
        x.addStation(70, 15, 1, 80, 3);
        x.addStation(99, 0, 5, 999, 0);
        x.addFinder(10, 20, 2);
        x.addFinder(30, 9, 30);
        x.addFinder(50, 20, 1);
        x.addFinder(72, 5, 4);
        x.addFinder(70, 0, 9);
        x.addFinder(40, 20, 3);
        x.set(1, 5);
        x.wind(1, 3);
        x.wind(2, -4);
        x.run(9);
        x.save(0);
        x.run(30);
        x.save(1);
        x.set(0, 30);
        for (int k = 1; k <= 8; k++) {
            x.deliver(k % 4, 10 * k, k);
        }
        x.run(1);
        return x;
    }

    /** All numbers of the state that can be asked for, with some 200 calls. */
    static String look(SondeStations x) {
        StringBuilder seen = new StringBuilder();
        for (int what = 0; what < 12; what++) {
            seen.append(x.about(what)).append(' ');
        }
        for (int s = 0; s < x.about(0); s++) {
            seen.append("\nstation");
            for (int what = 0; what < 8; what++) {
                seen.append(' ').append(x.station(s, what));
            }
            for (int flights = 0; flights < 5; flights++) {
                seen.append(' ').append(x.stock(s, flights));
            }
        }
        for (int f = 0; f < x.about(1); f++) {
            seen.append("\nfinder");
            for (int what = 0; what < 5; what++) {
                seen.append(' ').append(x.finder(f, what));
            }
        }
        for (int hour = 0; hour < 4; hour++) {
            seen.append("\nwind ").append(x.windOf(hour));
        }
        for (int what = 0; what < 5; what++) {
            seen.append("\nsetting ").append(x.setting(what));
        }
        for (int what = 0; what < 3; what++) {
            seen.append("\nbacks and gaps, ").append(what);
            for (int k = 0; k < 13; k++) {
                seen.append(' ').append(x.back(k, what)).append('/').append(x.gap(k, what));
            }
        }
        for (int what = 0; what < 4; what++) {
            seen.append("\ncoming ").append(x.coming(4, what)).append(' ').append(x.coming(60, what));
        }
        return seen.toString();
    }

    /** All that an object holds: its state, the states that are remembered, its save slots, its text. */
    static String everything(Supplier<SondeStations> maker) {
        return "now:\n" + look(maker.get()) + "\nremembered:" + lookAtMemory(maker.get())
                + "\nslot 0: " + lookAtSlot(maker.get(), 0) + "\nslot 1: " + lookAtSlot(maker.get(), 1)
                + "\ntext: " + lookAtText(maker.get());
    }

    private static String lookAtMemory(SondeStations x) {
        StringBuilder seen = new StringBuilder();
        for (int k = 0; k <= MOST_REMEMBERED; k++) {
            seen.append('\n').append(Check.answer(x::undo));
            for (int what = 0; what < 12; what++) {
                seen.append(' ').append(x.about(what));
            }
        }
        return seen.toString();
    }

    private static String lookAtSlot(SondeStations x, int slot) {
        return Check.answer(() -> x.restore(slot)) + "\n" + look(x);
    }

    private static String lookAtText(SondeStations x) {
        return Check.answer(x::errorPosition) + " " + Check.answer(x::load) + "\n" + look(x) + "\n" + x.clearText();
    }
}

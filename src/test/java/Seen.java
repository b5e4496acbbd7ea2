import java.util.NoSuchElementException;
import java.util.function.IntSupplier;

/** Everything that can be seen of an object, as one text: two that were told the same have the same one. */
final class Seen {
    private static final int[] DAYS = {5, 99};
    private static final int[] TIMES = {50000, Integer.MAX_VALUE};

    private final RaceByLaps x;
    private final int sectors;
    private final int laps;
    private final int cars;
    private final StringBuilder text = new StringBuilder();

    private Seen(RaceByLaps x) {
        this.x = x;
        sectors = x.count(0);
        laps = x.count(1);
        cars = x.count(2);
    }

    /** Spends the object: what it has told is found by asking for more, so it is of no use afterwards. */
    static String of(RaceByLaps x) {
        Seen seen = new Seen(x);
        seen.counts();
        seen.cars();
        seen.lines();
        seen.days();
        seen.tried();
        seen.numbers();
        seen.more();
        seen.tape();
        return seen.text.toString();
    }

    private void put(String what, int v) { text.append(what).append(' ').append(v).append('\n'); }

    private void ask(String what, IntSupplier call) {
        try {
            put(what, call.getAsInt());
        } catch (NoSuchElementException e) {
            text.append(what).append(" none\n");
        }
    }

    private void counts() {
        for (int what = 0; what < 10; what++) put("count", x.count(what));
        for (int i = 0, n = x.count(7); i < n; i++) put("row", x.row(i));
        put("leads", x.leads());
    }

    private void cars() {
        for (int k = 0; k < cars; k++) {
            for (int what = 0; what < 11; what++) put("of", x.of(k, what));
            put("waited", x.waited(k));
            for (int time : TIMES) put("wall", x.wall(k, time));
            for (int lap = 0; lap < laps; lap++) {
                put("led", x.led(lap, k));
                put("why", x.why(k, lap));
            }
        }
    }

    private void lines() {
        for (int lap = 0; lap < laps; lap++) {
            for (int i = 0; i < sectors; i++) {
                for (int k = 0; k < cars; k++) {
                    put("at", x.at(k, lap, i));
                    put("known", x.known(k, lap, i, 1));
                }
                put("ahead", x.ahead(0, 1, lap, i));
            }
        }
    }

    private void days() {
        for (int day : DAYS) {
            for (int k = 0; k < cars; k++) {
                int car = k;
                put("seconds", x.seconds(k, day));
                put("place", x.place(k, day));
                put("within", x.within(k, day));
                ask("sum", () -> x.sum(car, day));
            }
        }
    }

    private void tried() {
        put("move", x.move(0, 0, 0, 5));
        put("gain", x.gain(0, 1, 5));
        put("settle", x.settle(0, 1, 5));
        put("the row stays", x.count(7));
    }

    private void numbers() {
        int[] first = {500, 5, 200, 15000, 3000, 50, 300, 0};
        for (int what = 0; what < first.length; what++) put("set", x.set(what, first[what]));
        int[] tyres = {0, 10, 40, 1000, 0, 5};
        for (int kind = 0; kind < 4; kind++) {
            for (int what = 0; what < tyres.length; what++) put("tyres", x.tyres(kind, what, tyres[what]));
        }
    }

    private void more() {
        for (int k = 0; k < cars; k++) {
            put("option", x.option(k, -1, 0));
            put("tyre", x.tyre(k, 0, 0));
            put("order", x.order(k, 0, 0, 0));
            put("drop", x.drop(k, 0));
            put("unplan", x.unplan(k) ? 1 : 0);
        }
        put("rain", x.rain(0, 0, 0));
        put("flag", x.flag(0, 0, 0, 0));
        put("finding", x.finding(0, 0, 1, 0));
        put("car", x.car(0, 1, 1, 0, 0, 0));
        put("clear", x.clear());
    }

    /** The signs that are on the tape are told by what they put on a car, or by where they go wrong. */
    private void tape() {
        put("rule", x.rule(0));
        put("seconds", x.seconds(0, 0));
        put("signs", x.count(8));
    }
}

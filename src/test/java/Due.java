import java.util.NoSuchElementException;
import java.util.function.IntSupplier;

/** What the project's tests share: answers held against the ones due, texts put on the tape, plain races. */
final class Due {
    private static int wrong = 0;

    private Due() { }

    static void is(String what, long got, long due) {
        if (got == due) return;
        wrong++;
        System.out.println(what + " answered " + got + ", due is " + due);
    }

    static void is(String what, boolean got, boolean due) { is(what, got ? 1 : 0, due ? 1 : 0); }

    static void raises(String what, IntSupplier call) {
        try {
            int got = call.getAsInt();
            wrong++;
            System.out.println(what + " answered " + got + ", due is a NoSuchElementException");
        } catch (NoSuchElementException e) {
            return;
        }
    }

    /** Holds the whole ROW against the one that is due, and that there is no more of it. */
    static void row(String what, RaceByLaps x, int... due) {
        is(what + ", row", x.count(7), due.length);
        for (int i = 0; i < due.length && i < x.count(7); i++) is(what + ", row " + i, x.row(i), due[i]);
        raises(what + ", no more", () -> x.row(due.length));
    }

    static void fail(String what) {
        wrong++;
        System.out.println(what);
    }

    /** The last lines of a test's main: exit code 1 if an answer was wrong. */
    static void close() {
        if (wrong != 0) System.exit(1);
    }

    /** Puts a text on the (empty) tape. */
    static void tape(RaceByLaps x, String text) {
        for (int i = 0; i < text.length(); i += 4) {
            int v = 0;
            for (int j = i; j < i + 4; j++) v = v << 8 | (j < text.length() ? text.charAt(j) : 0);
            is("sign", x.sign(v), i + 4);
        }
        is("end", x.end(text.length()), true);
    }

    static int rule(RaceByLaps x, String text, int day) {
        tape(x, text);
        return x.rule(day);
    }

    static int plan(RaceByLaps x, String text, int car) {
        tape(x, text);
        return x.plan(car);
    }

    /** No load, no wear, no fall: a free sector of the first length takes 20000 and the car's OFF. */
    static RaceByLaps plain(int sectors, int laps) {
        RaceByLaps x = new RaceByLaps();
        x.set(1, 0);
        for (int kind = 0; kind < 4; kind++) {
            x.tyres(kind, 1, 0);
            x.tyres(kind, 3, 0);
        }
        x.track(sectors, laps);
        return x;
    }

    /** A car of a team, with one set of kind 0 and fuel for the whole race. */
    static int aCar(RaceByLaps x, int off, int team) {
        int car = x.car(off, 200, 1, team, 0, 200);
        x.tyre(car, 0, 0);
        return car;
    }
}

import java.util.NoSuchElementException;
import java.util.Random;
import java.util.function.BooleanSupplier;
import java.util.function.IntSupplier;

/** Random runs of calls (the seeds are fixed), each answer held against the Model's. */
public final class ModelTest {
    private static final long THROWS = Long.MIN_VALUE;
    private static final int RUNS = Integer.getInteger("runs", 1500);
    private static int wrong = 0;

    private final Random random;
    private final int seed;
    private final RaceByLaps x = new RaceByLaps();
    private final Model m = new Model();
    private final StringBuilder told = new StringBuilder();
    private int calls = 0;
    private boolean off = false;
    private int grain = 1;

    private ModelTest(int seed) {
        this.seed = seed;
        this.random = new Random(seed * 7919L + 17);
    }

    public static void main(String[] args) {
        for (int seed = 0; seed < RUNS && wrong < 5; seed++) new ModelTest(seed).run();
        if (wrong != 0) System.exit(1);
    }

    private static long ask(IntSupplier s) {
        try {
            return s.getAsInt();
        } catch (NoSuchElementException e) {
            return THROWS;
        }
    }

    private void same(String call, IntSupplier a, IntSupplier b) {
        if (off || calls >= 512) return;
        calls++;
        long got = ask(a), due = ask(b);
        told.append(call).append(" -> ").append(got).append('\n');
        if (got != due) {
            wrong++;
            off = true;
            System.out.println("seed " + seed + ", the last of\n" + told + "is due " + due);
        }
    }

    private void same(String call, BooleanSupplier a, BooleanSupplier b) {
        same(call, (IntSupplier) () -> a.getAsBoolean() ? 1 : 0, (IntSupplier) () -> b.getAsBoolean() ? 1 : 0);
    }

    private int r(int from, int to) { return from + random.nextInt(to - from + 1); }

    private boolean one(int in) { return random.nextInt(in) == 0; }

    private int pick(int... of) { return of[random.nextInt(of.length)]; }

    /** Mostly within from .. to, now and then just outside or far off. */
    private int about(int from, int to) {
        if (!one(25)) return one(6) ? pick(from, to) : to - from > 250 ? rounded(from, to) : r(from, to);
        return pick(from - 1, to + 1, -1, Integer.MIN_VALUE, Integer.MAX_VALUE);
    }

    /** In round numbers many TIMES are equal. */
    private int rounded(int from, int to) {
        int v = r(from, to);
        return Math.max(from, v - Math.floorMod(v, grain));
    }

    private int aCar() { return about(0, Math.max(0, m.cars.size() - 1)); }

    private int aLap() { return about(0, m.n - 1); }

    private int aSector() { return about(0, m.s - 1); }

    private int aDay() { return one(4) ? about(0, 99) : r(0, 4); }

    private int aTime() { return one(20) ? about(0, Integer.MAX_VALUE - 1) : rounded(0, 20000 * m.s * m.n * 6 / 5); }

    private void run() {
        boolean tight = one(2);
        if (one(2)) {
            grain = pick(100, 500, 1000);
            inRoundNumbers();
        }
        int laps = one(3) ? r(5, 12) : r(1, 5);
        if (!one(30)) track(r(2, 5), laps);
        for (int i = 0; i < m.s; i++) if (one(2)) sector(i, rounded(5000, tight ? 9000 : 60000), one(4) ? -1 : r(0, one(2) ? 300 : 5000));
        for (int i = 0; i < 4; i++) if (one(2)) numbers();
        for (int i = r(0, 8); i > 0; i--) tyres();
        for (int i = r(1, 6); i > 0; i--) aNewCar(tight);
        if (one(3)) bolder();
        for (int i = r(0, 30); i > 0; i--) tell();
        for (int round = 0; round < 12; round++) {
            for (int i = r(1, 20); i > 0; i--) look();
            if (one(4)) tried();
            for (int i = r(0, 3); i > 0; i--) tell();
            if (one(60)) track(about(2, 5), about(1, 12));
            if (one(8)) aNewCar(tight);
        }
    }

    /** Without LOAD, WEAR and MISS no TIME is less round than what is told. */
    private void inRoundNumbers() {
        set(1, 0);
        set(6, pick(0, 0, 100, 500));
        if (one(2)) set(3, 0);
        for (int kind = 0; kind < 4; kind++) {
            tyres(kind, 1, 0);
            tyres(kind, 5, 0);
        }
    }

    private void track(int s, int n) {
        same("track(" + s + ", " + n + ")", () -> x.track(s, n), () -> m.track(s, n));
    }

    private void sector(int i, int length, int ease) {
        same("sector(" + i + ", " + length + ", " + ease + ")", () -> x.sector(i, length, ease), () -> m.sector(i, length, ease));
    }

    private void numbers() {
        int[] most = {2000, 50, 500, 60000, 20000, 200, 2000, 9};
        int what = about(0, 7);
        set(what, Model.in(what, 0, 7) ? about(what == 0 ? 100 : 0, one(2) ? most[what] : Math.max(most[what] / 10, 9)) : 1);
    }

    private void set(int what, int v) {
        same("set(" + what + ", " + v + ")", () -> x.set(what, v), () -> m.set(what, v));
    }

    private void tyres() {
        int[] most = {3000, 100, 200, 5000, 100, 100};
        int kind = about(0, 3), what = about(0, 5);
        tyres(kind, what, Model.in(what, 0, 5) ? about(0, one(2) ? most[what] : most[what] / 10) : 1);
    }

    private void tyres(int kind, int what, int v) {
        same("tyres(" + kind + ", " + what + ", " + v + ")", () -> x.tyres(kind, what, v), () -> m.tyres(kind, what, v));
    }

    private void aNewCar(boolean tight) {
        int offset = tight ? about(-300, 300) : about(-2000, 2000), tank = about(20, 200), burn = about(1, one(2) ? 2 : 9);
        int team = about(0, one(2) ? 1 : 3), clas = about(0, 1), fuel = tank < 1 || tank > 200 ? 1 : one(3) ? about(0, tank) : tank;
        same("car(" + offset + ", " + tank + ", " + burn + ", " + team + ", " + clas + ", " + fuel + ")",
            () -> x.car(offset, tank, burn, team, clas, fuel), () -> m.car(offset, tank, burn, team, clas, fuel));
        int last = m.cars.size() - 1;
        for (int i = one(12) ? 0 : r(1, 3); i > 0; i--) tyre(last);
    }

    private void tyre(int car) {
        int kind = about(0, 3), age = one(3) ? about(0, 100) : r(0, 10);
        same("tyre(" + car + ", " + kind + ", " + age + ")", () -> x.tyre(car, kind, age), () -> m.tyre(car, kind, age));
    }

    /** Flags over much of the race and cars that pass all the same. */
    private void bolder() {
        int kind = one(3) ? 1 : 0, from = one(2) ? 0 : aTime(), to = from < Integer.MAX_VALUE / 2 ? from + r(0, 300000) : from;
        same("flag(-1, " + from + ", " + to + ", " + kind + ")", () -> x.flag(-1, from, to, kind), () -> m.flag(-1, from, to, kind));
        for (int k = 0; k < m.cars.size(); k++) {
            int c = k, lap = one(2) ? 0 : aLap();
            same("order(" + c + ", " + lap + ", 1, 1)", () -> x.order(c, lap, 1, 1), () -> m.order(c, lap, 1, 1));
        }
    }

    private void tell() {
        switch (random.nextInt(15)) {
            case 0 -> {
                int i = aSector(), t = aTime(), w = about(0, 100);
                same("rain(" + i + ", " + t + ", " + w + ")", () -> x.rain(i, t, w), () -> m.rain(i, t, w));
            }
            case 1 -> {
                int i = one(3) ? -1 : aSector(), t = aTime(), to = one(15) ? t - 1 : t + r(0, 60000), kind = about(0, 1);
                same("flag(" + i + ", " + t + ", " + to + ", " + kind + ")", () -> x.flag(i, t, to, kind), () -> m.flag(i, t, to, kind));
            }
            case 2 -> tyre(aCar());
            case 3, 4 -> {
                int c = aCar(), lap = aLap(), what = about(0, 1), v = about(-1, 1);
                same("order(" + c + ", " + lap + ", " + what + ", " + v + ")", () -> x.order(c, lap, what, v), () -> m.order(c, lap, what, v));
            }
            case 5, 6 -> {
                int c = aCar(), lap = about(0, Math.max(0, m.n - 2)), set = about(-1, 3), fuel = about(0, 200);
                same("stop(" + c + ", " + lap + ", " + set + ", " + fuel + ")", () -> x.stop(c, lap, set, fuel), () -> m.stop(c, lap, set, fuel));
            }
            case 7 -> {
                int c = aCar(), i = about(0, 2);
                same("drop(" + c + ", " + i + ")", () -> x.drop(c, i), () -> m.drop(c, i));
            }
            case 8, 9 -> {
                int c = aCar();
                text(ModelWriter.plan(random));
                same("plan(" + c + ")", () -> x.plan(c), () -> m.plan(c));
            }
            case 10 -> {
                int c = aCar();
                if (one(3)) same("unplan(" + c + ")", () -> x.unplan(c), () -> m.unplan(c));
            }
            case 11, 12 -> {
                int day = aDay();
                text(ModelWriter.rule(random));
                same("rule(" + day + ")", () -> x.rule(day), () -> m.rule(day));
            }
            case 13 -> {
                int day = aDay(), c = aCar(), what = about(0, 1), v = what == 0 ? about(0, 999) : about(-60000, 60000);
                same("finding(" + day + ", " + c + ", " + what + ", " + v + ")", () -> x.finding(day, c, what, v), () -> m.finding(day, c, what, v));
            }
            default -> {
                int i = aSector();
                boolean is = one(2);
                same("lost(" + i + ", " + is + ")", () -> x.lost(i, is), () -> m.lost(i, is));
                if (one(3)) numbers();
                if (one(3)) tyres();
            }
        }
    }

    private void text(String text) {
        for (int i = 0; i < text.length(); i += 4) {
            int v = 0;
            for (int j = 0; j < 4; j++) v = v << 8 | (i + j < text.length() ? text.charAt(i + j) & 255 : 32);
            int word = v;
            same("sign(" + word + ")", () -> x.sign(word), () -> m.sign(word));
        }
        int n = one(40) ? about(0, 100) : text.length();
        same("end(" + n + ") of " + text, () -> x.end(n), () -> m.end(n));
    }

    private void look() {
        int c = aCar(), lap = aLap(), i = aSector(), day = aDay(), t = aTime();
        switch (random.nextInt(17)) {
            case 0, 1, 2 -> {
                int what = about(0, 10);
                same("of(" + c + ", " + what + ")", () -> x.of(c, what), () -> m.of(c, what));
            }
            case 3, 4 -> same("at(" + c + ", " + lap + ", " + i + ")", () -> x.at(c, lap, i), () -> m.at(c, lap, i));
            case 5 -> {
                int at = about(0, 5);
                same("led(" + lap + ", " + at + ")", () -> x.led(lap, at), () -> m.led(lap, at));
            }
            case 6 -> same("waited(" + c + ")", () -> x.waited(c), () -> m.waited(c));
            case 7 -> same("leads()", () -> x.leads(), () -> m.leads());
            case 8 -> same("seconds(" + c + ", " + day + ")", () -> x.seconds(c, day), () -> m.seconds(c, day));
            case 9 -> same("place(" + c + ", " + day + ")", () -> x.place(c, day), () -> m.place(c, day));
            case 10 -> same("sum(" + c + ", " + day + ")", () -> x.sum(c, day), () -> m.sum(c, day));
            case 11 -> same("within(" + c + ", " + day + ")", () -> x.within(c, day), () -> m.within(c, day));
            case 12 -> {
                if (one(2)) same("result(" + day + ")", () -> x.result(day), () -> m.result(day));
                int at = about(0, 5), what = about(0, 9);
                same("row(" + at + ")", () -> x.row(at), () -> m.row(at));
                same("count(" + what + ")", () -> x.count(what), () -> m.count(what));
            }
            case 13 -> {
                int what = about(0, 1);
                same("known(" + c + ", " + lap + ", " + i + ", " + what + ")", () -> x.known(c, lap, i, what), () -> m.known(c, lap, i, what));
            }
            case 14 -> {
                int b = aCar();
                same("ahead(" + c + ", " + b + ", " + lap + ", " + i + ")", () -> x.ahead(c, b, lap, i), () -> m.ahead(c, b, lap, i));
            }
            case 15 -> same("wall(" + c + ", " + t + ")", () -> x.wall(c, t), () -> m.wall(c, t));
            default -> same("why(" + c + ", " + lap + ")", () -> x.why(c, lap), () -> m.why(c, lap));
        }
    }

    private void tried() {
        int c = aCar(), day = aDay(), b = one(4) ? aCar() : one(2) ? c + 1 : c - 1;
        switch (random.nextInt(5)) {
            case 0 -> {
                int i = about(0, 2), lap = about(0, Math.max(0, m.n - 2));
                same("move(" + c + ", " + i + ", " + lap + ", " + day + ")", () -> x.move(c, i, lap, day), () -> m.move(c, i, lap, day));
            }
            case 1 -> {
                int stops = about(0, m.n > 6 && !one(10) ? 1 : 2);
                same("best(" + c + ", " + stops + ", " + day + ")", () -> x.best(c, stops, day), () -> m.best(c, stops, day));
                for (int q = 0; q < 5; q++) {
                    int at = q;
                    same("row(" + at + ")", () -> x.row(at), () -> m.row(at));
                }
            }
            case 2 -> {
                int stops = about(0, m.n > 6 && !one(10) ? 1 : 2);
                same("gain(" + c + ", " + stops + ", " + day + ")", () -> x.gain(c, stops, day), () -> m.gain(c, stops, day));
            }
            default -> {
                for (int k = r(0, 8); k > 0; k--) {
                    int who = one(2) ? c : b, lap = one(4) ? -1 : about(0, Math.max(0, m.n - 2)), set = about(-1, 2);
                    same("option(" + who + ", " + lap + ", " + set + ")", () -> x.option(who, lap, set), () -> m.option(who, lap, set));
                }
                same("settle(" + c + ", " + b + ", " + day + ")", () -> x.settle(c, b, day), () -> m.settle(c, b, day));
                if (one(4)) same("clear()", () -> x.clear(), () -> m.clear());
            }
        }
    }
}

import java.util.NoSuchElementException;
import java.util.function.ToIntFunction;

/**
 * Terms 5: refused calls answer NONE, or false, and change nothing. Each one is made on an object with something
 * of everything, which then is held against another one that was told the same but for that call.
 */
public final class RefusedTest {
    private static final int MIN = Integer.MIN_VALUE;
    private static final int MAX = Integer.MAX_VALUE;
    private static final int THROWN = 77777;

    private static final String READY = Seen.of(ready());
    private static final String READY_WITHOUT_TAPE = Seen.of(withoutTape(ready()));
    private static final String FULL = Seen.of(full());
    private static final String FULL_WITHOUT_TAPE = Seen.of(withoutTape(full()));

    public static void main(String[] args) {
        track();
        cars();
        orders();
        plans();
        race();
        book();
        rules();
        tried();
        lines();
        whenFull();
        Due.is("objects that are told otherwise are seen to differ", READY.equals(Seen.of(other())), false);
        Due.close();
    }

    private static RaceByLaps ready() {
        RaceByLaps x = new RaceByLaps();
        x.track(3, 4);
        x.sector(0, 7000, 100);
        x.sector(1, 9000, -1);
        x.tyres(1, 0, 40);
        x.set(7, 1);
        x.set(6, 700);
        x.rain(0, 20000, 30);
        x.flag(-1, 90000, 110000, 0);
        for (int k = 0; k < 3; k++) {
            x.car(-100 * k, 100, 2, k % 2, k % 2, 60);
            x.tyre(k, k, 3);
            x.tyre(k, 3 - k, 0);
            x.option(k, k, 1);
        }
        x.option(0, -1, 0);
        x.order(1, 1, 0, -1);
        x.order(2, 0, 1, 1);
        x.stop(0, 1, 1, 10);
        x.stop(1, 1, -1, 20);
        x.stop(0, 2, 0, 30);
        Due.plan(x, "l=1:b1+;:.", 2);
        Due.rule(x, "s>1:+4", 0);
        Due.rule(x, "w=9:+60", 5);
        x.finding(5, 1, 0, 9);
        x.finding(9, 0, 1, -400);
        x.lost(0, true);
        x.result(0);
        Due.tape(x, "1:+007");
        return x;
    }

    private static RaceByLaps other() {
        RaceByLaps x = ready();
        x.rain(2, MAX, 0);
        return x;
    }

    private static RaceByLaps full() {
        RaceByLaps x = new RaceByLaps();
        x.track(2, 2);
        for (int i = 0; i < 30; i++) x.rain(i % 2, 1000 * i, i);
        for (int i = 0; i < 20; i++) x.flag(-1, 3000 * i, 3000 * i + 100, i % 2);
        for (int k = 0; k < 6; k++) {
            x.car(10 * k, 200, 1, k % 4, k % 2, 200);
            for (int set = 0; set < 4; set++) x.tyre(k, set, set);
            for (int i = 0; i < 4; i++) x.option(k, i % 2 - 1, i);
        }
        for (int i = 0; i < 12; i++) x.order(0, i % 2, i % 2, i % 2);
        for (int i = 0; i < 5; i++) x.stop(0, 0, i % 4, i);
        for (int i = 0; i < 10; i++) Due.rule(x, "t:+" + i, i);
        for (int i = 0; i < 20; i++) x.finding(i, i % 6, 1, i);
        for (int i = 0; i < 25; i++) x.sign('1' << 24 | '+' << 16 | '1' << 8 | '+');
        return x;
    }

    private static RaceByLaps withoutTape(RaceByLaps x) {
        x.end(0);
        return x;
    }

    private static int answer(RaceByLaps x, ToIntFunction<RaceByLaps> call) {
        try {
            return call.applyAsInt(x);
        } catch (NoSuchElementException e) {
            return THROWN;
        }
    }

    private static void refused(String what, int due, ToIntFunction<RaceByLaps> call) {
        RaceByLaps x = ready();
        Due.is("refused, " + what, answer(x, call), due);
        Due.is("changes nothing, " + what, Seen.of(x).equals(READY), true);
    }

    private static void refused(String what, ToIntFunction<RaceByLaps> call) { refused(what, -1, call); }

    /** plan() and rule() empty the tape, whatever they answer, and change nothing else. */
    private static void refusedText(String what, int due, ToIntFunction<RaceByLaps> call) {
        RaceByLaps x = ready();
        Due.is("refused, " + what, answer(x, call), due);
        Due.is("changes but the tape, " + what, Seen.of(x).equals(READY_WITHOUT_TAPE), true);
    }

    private static void refusedFull(String what, ToIntFunction<RaceByLaps> call) {
        RaceByLaps x = full();
        Due.is("full, " + what, answer(x, call), -1);
        Due.is("full and stays so, " + what, Seen.of(x).equals(FULL), true);
    }

    private static int asInt(boolean b) { return b ? 1 : 0; }

    private static void track() {
        int[][] tracks = {{1, 1}, {6, 1}, {0, 4}, {-1, 4}, {MIN, 4}, {MAX, 4}, {3, 0}, {3, 13}, {3, -1}, {3, MIN}, {3, MAX}};
        for (int[] t : tracks) refused("2: track", 0, x -> asInt(x.track(t[0], t[1])));
        int[][] sectors = {{-1, 7000, 0}, {3, 7000, 0}, {MAX, 7000, 0}, {MIN, 7000, 0}, {0, 4999, 0}, {0, 60001, 0}, {0, MIN, 0},
            {0, MAX, 0}, {0, 8000, -2}, {0, 8000, 5001}, {0, 8000, MIN}, {0, 8000, MAX}};
        for (int[] s : sectors) refused("3: sector", 0, x -> asInt(x.sector(s[0], s[1], s[2])));
        int[][] tyres = {{-1, 0, 1}, {4, 0, 1}, {MAX, 0, 1}, {0, -1, 1}, {0, 6, 1}, {0, MIN, 1}, {0, 0, -1}, {0, 0, 3001}, {0, 1, 101},
            {0, 2, 201}, {0, 3, 5001}, {0, 4, 101}, {0, 5, 101}, {3, 5, MIN}, {3, 0, MAX}};
        for (int[] t : tyres) refused("4: tyres", x -> x.tyres(t[0], t[1], t[2]));
        int[][] numbers = {{-1, 500}, {8, 1}, {MAX, 1}, {MIN, 1}, {0, 99}, {0, 2001}, {1, -1}, {1, 51}, {2, -1}, {2, 501}, {3, -1}, {3, 60001},
            {4, -1}, {4, 20001}, {5, -1}, {5, 201}, {6, -1}, {6, 2001}, {7, -1}, {7, 10}, {7, MAX}, {0, MIN}};
        for (int[] n : numbers) refused("5: set", x -> x.set(n[0], n[1]));
        int[][] rains = {{-1, 0, 50}, {3, 0, 50}, {MAX, 0, 50}, {0, -1, 50}, {0, MIN, 50}, {0, 0, -1}, {0, 0, 101}, {0, 0, MAX}};
        for (int[] r : rains) refused("6: rain", x -> x.rain(r[0], r[1], r[2]));
        int[][] flags = {{-2, 0, 9, 0}, {3, 0, 9, 0}, {MIN, 0, 9, 0}, {MAX, 0, 9, 1}, {0, -1, 9, 0}, {0, -2, -1, 1}, {0, 0, -1, 1}, {0, 9, 8, 1},
            {0, MAX, 0, 1}, {0, 0, 9, -1}, {0, 0, 9, 2}, {0, 0, 9, MIN}};
        for (int[] f : flags) refused("7: flag", x -> x.flag(f[0], f[1], f[2], f[3]));
    }

    private static void cars() {
        int[][] cars = {{-2001, 9, 1, 0, 0, 9}, {2001, 9, 1, 0, 0, 9}, {0, 0, 1, 0, 0, 0}, {0, 201, 1, 0, 0, 9}, {0, -1, 1, 0, 0, -1}, {0, 9, 0, 0, 0, 9},
            {0, 9, 10, 0, 0, 9}, {0, 9, 1, -1, 0, 9}, {0, 9, 1, 4, 0, 9}, {0, 9, 1, 0, -1, 9}, {0, 9, 1, 0, 2, 9}, {0, 9, 1, 0, 0, -1},
            {0, 9, 1, 0, 0, 10}, {MIN, 9, 1, 0, 0, 9}, {0, MAX, 1, 0, 0, 9}, {0, 9, MIN, 0, 0, 9}, {0, 9, 1, MAX, 0, 9}, {0, 9, 1, 0, 0, MIN}};
        for (int[] c : cars) refused("8: car", x -> x.car(c[0], c[1], c[2], c[3], c[4], c[5]));
        int[][] tyres = {{-1, 0, 0}, {3, 0, 0}, {MAX, 0, 0}, {0, -1, 0}, {0, 4, 0}, {0, MIN, 0}, {0, 0, -1}, {0, 0, 101}, {0, 0, MAX}};
        for (int[] t : tyres) refused("9: tyre", x -> x.tyre(t[0], t[1], t[2]));
        for (int what : new int[] {-1, 10, MIN, MAX}) refused("15: count", x -> x.count(what));
    }

    private static void orders() {
        int[][] orders = {{-1, 0, 0, 1}, {3, 0, 0, 1}, {MIN, 0, 0, 1}, {0, -1, 0, 1}, {0, 4, 0, 1}, {0, MAX, 0, 1}, {0, 0, -1, 1}, {0, 0, 2, 1},
            {0, 0, 0, -2}, {0, 0, 0, 2}, {0, 0, 1, -1}, {0, 0, 1, 2}, {0, 0, 0, MIN}, {0, 0, 1, MAX}};
        for (int[] o : orders) refused("10: order", x -> x.order(o[0], o[1], o[2], o[3]));
        int[][] stops = {{-1, 0, 0, 9}, {3, 0, 0, 9}, {MAX, 0, 0, 9}, {0, -1, 0, 9}, {0, 3, 0, 9}, {0, MIN, 0, 9}, {0, 0, -2, 9}, {0, 0, 4, 9},
            {0, 0, MAX, 9}, {0, 0, 0, -1}, {0, 0, 0, 201}, {0, 0, 0, MIN}};
        for (int[] s : stops) refused("11: stop", x -> x.stop(s[0], s[1], s[2], s[3]));
        int[][] drops = {{-1, 0}, {3, 0}, {MAX, 0}, {0, -1}, {0, 2}, {1, 1}, {2, 0}, {0, MIN}, {0, MAX}};
        for (int[] d : drops) refused("12: drop", x -> x.drop(d[0], d[1]));
    }

    private static void plans() {
        for (int car : new int[] {-1, 3, MIN, MAX}) {
            refusedText("13: plan of no car", -100, x -> x.plan(car));
            refused("14: unplan of no car", 0, x -> asInt(x.unplan(car)));
        }
        for (int car = 0; car < 2; car++) {
            int k = car;
            refused("14: unplan of one without", 0, x -> asInt(x.unplan(k)));
        }
        refusedText("13: a text that is none", -4, x -> x.plan(2));
        refusedText("13: an empty text", -1, x -> withoutTape(x).plan(2));
        refusedText("13: one that ends too early", -3, x -> {
            x.end(2);
            return x.plan(2);
        });
    }

    private static void race() {
        for (int[] o : new int[][] {{-1, 0}, {3, 0}, {MAX, 0}, {MIN, 10}, {0, -1}, {0, 11}, {0, MAX}, {0, MIN}}) refused("16: of", THROWN, x -> x.of(o[0], o[1]));
        int[][] ats = {{-1, 0, 0}, {3, 0, 0}, {0, -1, 0}, {0, 4, 0}, {0, 0, -1}, {0, 0, 3}, {MIN, MIN, MIN}, {0, MAX, 0}, {0, 0, MAX}};
        for (int[] a : ats) refused("17: at", x -> x.at(a[0], a[1], a[2]));
        for (int[] l : new int[][] {{-1, 0}, {4, 0}, {0, -1}, {0, 3}, {0, 6}, {MAX, 0}, {0, MAX}, {MIN, MIN}}) refused("18: led", x -> x.led(l[0], l[1]));
        for (int car : new int[] {-1, 3, MIN, MAX}) refused("19: waited", x -> x.waited(car));
    }

    private static void book() {
        for (int n : new int[] {-1, 7, MIN, MAX}) refused("22: end", 0, x -> asInt(x.end(n)));
        int[][] findings = {{-1, 0, 0, 1}, {100, 0, 0, 1}, {MAX, 0, 0, 1}, {0, -1, 0, 1}, {0, 3, 0, 1}, {0, MIN, 0, 1}, {0, 0, -1, 1}, {0, 0, 2, 1},
            {0, 0, 0, -1}, {0, 0, 0, 1000}, {0, 0, 1, -60001}, {0, 0, 1, 60001}, {0, 0, 0, MAX}, {0, 0, 1, MIN}};
        for (int[] f : findings) refused("24: finding", x -> x.finding(f[0], f[1], f[2], f[3]));
        for (int[] c : new int[][] {{-1, 0}, {3, 0}, {MAX, 0}, {0, -1}, {0, 100}, {0, MIN}, {0, MAX}}) {
            refused("25: seconds", x -> x.seconds(c[0], c[1]));
            refused("26: place", x -> x.place(c[0], c[1]));
            refused("27: sum", THROWN, x -> x.sum(c[0], c[1]));
            refused("28: within", x -> x.within(c[0], c[1]));
        }
        for (int day : new int[] {-1, 100, MIN, MAX}) refused("29: result", x -> x.result(day));
    }

    private static void rules() {
        for (int day : new int[] {-1, 100, MIN, MAX}) refusedText("23: rule of no day", -100, x -> x.rule(day));
        refusedText("23: an empty text", -1, x -> withoutTape(x).rule(0));
        refusedText("23: one that ends too early", -4, x -> {
            x.end(3);
            return x.rule(0);
        });
        refusedText("23: one with a sign more", -7, x -> {
            x.sign(0);
            return x.rule(0);
        });
    }

    private static void tried() {
        int[][] moves = {{-1, 0, 0, 0}, {3, 0, 0, 0}, {0, -1, 0, 0}, {0, 2, 0, 0}, {2, 0, 0, 0}, {0, 0, -1, 0}, {0, 0, 3, 0}, {0, 0, 0, -1}, {0, 0, 0, 100},
            {MIN, 0, 0, 0}, {0, MAX, 0, 0}, {0, 0, MAX, 0}, {0, 0, 0, MIN}};
        for (int[] m : moves) refused("30: move", x -> x.move(m[0], m[1], m[2], m[3]));
        for (int[] b : new int[][] {{-1, 1, 0}, {3, 1, 0}, {0, -1, 0}, {0, 3, 0}, {0, 1, -1}, {0, 1, 100}, {MAX, 1, 0}, {0, MIN, 0}, {0, MAX, 0}, {0, 1, MIN}}) {
            refused("31: best", x -> x.best(b[0], b[1], b[2]));
            refused("32: gain", x -> x.gain(b[0], b[1], b[2]));
        }
        int[][] options = {{-1, 0, 0}, {3, 0, 0}, {0, -2, 0}, {0, 3, 0}, {0, 0, -2}, {0, 0, 4}, {0, -1, 4}, {0, -1, -2}, {MAX, 0, 0}, {0, MIN, 0}, {0, 0, MAX}};
        for (int[] o : options) refused("33: option", x -> x.option(o[0], o[1], o[2]));
        int[][] settles = {{-1, 0, 0}, {0, -1, 0}, {3, 0, 0}, {0, 3, 0}, {0, 0, 0}, {2, 2, 0}, {0, 1, -1}, {0, 1, 100}, {MIN, 0, 0}, {0, MAX, 0}, {0, 1, MAX}};
        for (int[] s : settles) refused("35: settle", x -> x.settle(s[0], s[1], s[2]));
    }

    private static void lines() {
        for (int i : new int[] {-1, 2, 3, MIN, MAX}) {
            refused("36: lost", 0, x -> asInt(x.lost(i, true)));
            refused("36: not lost", 0, x -> asInt(x.lost(i, false)));
        }
        int[][] knowns = {{-1, 0, 0, 0}, {3, 0, 0, 0}, {0, -1, 0, 0}, {0, 4, 0, 0}, {0, 0, -1, 0}, {0, 0, 3, 0}, {0, 0, 0, -1}, {0, 0, 0, 2},
            {MIN, 0, 0, 0}, {0, MAX, 0, 0}, {0, 0, MAX, 0}, {0, 0, 0, MIN}};
        for (int[] k : knowns) refused("37: known", x -> x.known(k[0], k[1], k[2], k[3]));
        int[][] aheads = {{-1, 0, 0, 0}, {0, -1, 0, 0}, {3, 0, 0, 0}, {0, 3, 0, 0}, {1, 1, 0, 0}, {0, 1, -1, 0}, {0, 1, 4, 0}, {0, 1, 0, -1}, {0, 1, 0, 3},
            {MAX, 0, 0, 0}, {0, MIN, 0, 0}, {0, 1, MAX, 0}, {0, 1, 0, MIN}};
        for (int[] a : aheads) refused("38: ahead", x -> x.ahead(a[0], a[1], a[2], a[3]));
        for (int[] w : new int[][] {{-1, 0}, {3, 0}, {MAX, 0}, {0, -1}, {0, MIN}}) refused("39: wall", x -> x.wall(w[0], w[1]));
        for (int[] w : new int[][] {{-1, 0}, {3, 0}, {2, -1}, {2, 4}, {MIN, 0}, {2, MAX}}) refused("40: why", x -> x.why(w[0], w[1]));
        for (int i : new int[] {-1, 3, MIN, MAX}) refused("41: row", THROWN, x -> x.row(i));
    }

    private static void whenFull() {
        refusedFull("6: 30 of rain", x -> x.rain(0, 0, 0));
        refusedFull("7: 20 flags", x -> x.flag(-1, 0, MAX, 0));
        refusedFull("8: 6 cars", x -> x.car(0, 9, 1, 0, 0, 9));
        for (int k = 0; k < 6; k++) {
            int car = k;
            refusedFull("9: 4 sets", x -> x.tyre(car, 0, 0));
            refusedFull("33: 4 options", x -> x.option(car, -1, 0));
        }
        refusedFull("10: 12 orders", x -> x.order(0, 0, 0, 1));
        refusedFull("11: 5 stops", x -> x.stop(0, 0, -1, 0));
        refusedFull("24: 20 findings", x -> x.finding(0, 0, 0, 999));
        refusedFull("21: 100 signs", x -> x.sign(0));
        RaceByLaps x = full();
        Due.is("23: 10 rules", x.rule(0), -100);
        Due.is("23: 10 rules stay", Seen.of(x).equals(FULL_WITHOUT_TAPE), true);
    }
}

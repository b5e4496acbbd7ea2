/** Promises 30 to 35: move, best, gain, option, clear, settle. */
public final class TriedTest {
    public static void main(String[] args) {
        move();
        moveNone();
        best();
        bestTwo();
        bestOfEqualOnes();
        bestWithoutPlace();
        bestWithoutPlan();
        gain();
        option();
        clear();
        settle();
        settleNone();
        settleWithoutPlan();
        Due.close();
    }

    /** Tyres that fall by 5000 from age 2 on: the sooner they are changed, the better. */
    private static RaceByLaps falling(int laps) {
        RaceByLaps x = Due.plain(2, laps);
        x.tyres(0, 2, 2);
        x.tyres(0, 3, 5000);
        x.tyres(1, 2, 2);
        x.tyres(1, 3, 5000);
        x.set(3, 3000);
        x.set(4, 1000);
        x.set(5, 0);
        return x;
    }

    private static void move() {
        RaceByLaps x = falling(4);
        Due.aCar(x, 0, 0);
        x.tyre(0, 1, 0);
        Due.aCar(x, 2000, 1);
        x.tyres(0, 2, 4);
        x.stop(0, 0, 1, 0);
        Due.is("30: 4000 and 4 falls", x.sum(0, 0), 160000 + 4000 + 20000);
        Due.is("30: 300, 16000 and 4 falls", x.sum(1, 0), 160300 + 16000 + 20000);
        Due.is("30: as it is", x.move(0, 0, 0, 0), 0);
        x.finding(1, 1, 1, -20000);
        Due.is("30: by that day", x.place(0, 1), 1);
        Due.is("30: 2 falls behind lap 1", x.move(0, 0, 1, 1), 0);
        Due.is("30: 4 falls behind lap 0", x.move(0, 0, 0, 1), 1);
        Due.is("30: all is as it was", x.place(0, 1), 1);
        Due.is("30: all is as it was", x.of(0, 1), 184000);
        x.stop(0, 1, -1, 200);
        Due.is("30: of one lap the one told last holds", x.move(0, 0, 1, 1), 1);
        Due.is("30: all is as it was", x.of(0, 3), 2);
        int[][] others = {{-1, 0, 0, 0}, {2, 0, 0, 0}, {1, 0, 0, 0}, {0, -1, 0, 0}, {0, 2, 0, 0}, {0, 0, -1, 0}, {0, 0, 3, 0}, {0, 0, 0, -1}, {0, 0, 0, 100}};
        for (int[] o : others) Due.is("30: others", x.move(o[0], o[1], o[2], o[3]), -1);
    }

    private static void moveNone() {
        RaceByLaps x = Due.plain(2, 4);
        x.car(0, 4, 1, 0, 0, 4);
        x.tyre(0, 0, 0);
        x.stop(0, 1, -1, 200);
        x.result(0);
        Due.is("30: it has just enough", x.place(0, 0), 0);
        Due.is("30: it would run dry", x.move(0, 0, 0, 0), -2);
        Due.is("30: too late", x.move(0, 0, 2, 0), -2);
        Due.is("30: the row stays", x.count(7), 1);
        Due.plan(x, "l=1:b0", 0);
        Due.is("30: its plan does not help", x.move(0, 0, 0, 0), -2);
        Due.plan(x, "l=3:b0", 0);
        Due.is("30: its plan is asked", x.move(0, 0, 0, 0), 0);
    }

    private static void best() {
        RaceByLaps x = falling(3);
        x.car(0, 200, 1, 0, 0, 200);
        Due.is("31: no set, no way", x.best(0, 1, 0), -1);
        Due.is("31: no set, no way", x.best(0, 2, 0), -1);
        x.tyre(0, 0, 0);
        x.tyre(0, 1, 0);
        Due.is("31: 20000 lost as told", x.sum(0, 0), 140000);
        Due.is("31: the first place", x.best(0, 1, 0), 0);
        Due.row("31: one stop, behind lap 0 as good as behind lap 1", x, 0, 1);
        Due.is("31: none", x.best(0, 0, 0), 0);
        Due.row("31: none", x);
        Due.is("31: all is as it was", x.sum(0, 0), 140000);
        Due.is("31: all is as it was", x.of(0, 3), 0);
        x.stop(0, 0, 1, 0);
        x.stop(0, 1, 0, 0);
        Due.is("31: its own are not made", x.best(0, 0, 0), 0);
        Due.is("31: but stay", x.of(0, 3), 2);
        int[][] others = {{-1, 0, 0}, {1, 0, 0}, {0, -1, 0}, {0, 3, 0}, {0, 0, -1}, {0, 0, 100}};
        x.result(0);
        for (int[] o : others) Due.is("31: others", x.best(o[0], o[1], o[2]), -1);
        Due.row("31: the row stays", x, 0);
        x.track(2, 1);
        Due.aCar(x, 0, 0);
        Due.is("31: one lap: no stop", x.best(0, 1, 0), -1);
        Due.is("31: one lap", x.best(0, 0, 0), 0);
        x.track(2, 2);
        Due.aCar(x, 0, 0);
        Due.is("31: two laps: one stop", x.best(0, 1, 0), 0);
        Due.row("31: two laps: one stop", x, 0, 0);
        Due.is("31: two laps: no two stops", x.best(0, 2, 0), -1);
    }

    private static void bestTwo() {
        RaceByLaps x = falling(4);
        Due.aCar(x, 0, 0);
        x.tyre(0, 1, 0);
        x.tyre(0, 1, 0);
        Due.is("31: two stops", x.best(0, 2, 0), 0);
        Due.row("31: two stops", x, 0, 1, 1, 2);
        x.set(3, 60000);
        x.set(4, 20000);
        Due.is("31: two stops, dear ones", x.best(0, 2, 0), 0);
        Due.row("31: a change costs more than it brings", x, 0, 0, 1, 0);
        x.set(3, 0);
        x.set(4, 10001);
        Due.is("31: a fall for two sectors is 10000", x.best(0, 1, 0), 0);
        Due.row("31: three sectors with them are not worth one of 10001", x, 0, 0);
        x.set(4, 9999);
        Due.is("31: now it is", x.best(0, 1, 0), 0);
        Due.row("31: now it is", x, 0, 1);
    }

    private static void bestOfEqualOnes() {
        RaceByLaps x = Due.plain(2, 5);
        x.set(4, 0);
        Due.aCar(x, 0, 0);
        x.tyre(0, 0, 0);
        x.tyre(0, 0, 0);
        Due.is("31: all are equal", x.best(0, 2, 0), 0);
        Due.row("31: the first", x, 0, 0, 1, 0);
        Due.is("31: all are equal", x.best(0, 1, 0), 0);
        Due.row("31: the first", x, 0, 0);
        x.tyres(1, 0, 100);
        RaceByLaps y = Due.plain(2, 5);
        y.car(0, 6, 1, 0, 0, 6);
        y.tyre(0, 0, 0);
        y.set(5, 0);
        Due.is("31: fuel for 3 laps, the tank for 3", y.best(0, 1, 0), 0);
        Due.row("31: the first lap that will do", y, 1, 0);
        RaceByLaps z = Due.plain(2, 5);
        z.car(0, 4, 1, 0, 0, 2);
        z.tyre(0, 0, 0);
        Due.is("31: fuel for 1 lap, the tank for 2", z.best(0, 2, 0), 0);
        Due.row("31: the only way", z, 0, 0, 2, 0);
    }

    private static void bestWithoutPlace() {
        RaceByLaps x = Due.plain(2, 4);
        x.car(0, 200, 1, 0, 0, 200);
        x.result(0);
        Due.is("31: out", x.best(0, 0, 0), -2);
        Due.row("31: with its row", x);
        x.tyre(0, 0, 0);
        Due.rule(x, "1:X", 0);
        Due.is("31: X", x.best(0, 2, 0), -2);
        Due.row("31: the first of all", x, 0, 0, 1, 0);
        RaceByLaps y = Due.plain(2, 4);
        Due.aCar(y, 0, 0);
        y.tyre(0, 1, 0);
        Due.rule(y, "k<2:X", 3);
        Due.is("31: by that day", y.best(0, 1, 2), 0);
        Due.row("31: no need to change", y, 0, 0);
        Due.is("31: by that day", y.best(0, 1, 3), 0);
        Due.row("31: a place is better than none", y, 0, 1);
    }

    private static void bestWithoutPlan() {
        RaceByLaps x = Due.plain(2, 3);
        Due.aCar(x, 0, 0);
        Due.aCar(x, 0, 1);
        Due.plan(x, ":b0+", 0);
        Due.is("31: its plan costs it", x.place(0, 0), 1);
        Due.is("31: it is not asked at all", x.best(0, 0, 0), 0);
        Due.is("31: all is as it was", x.place(0, 0), 1);
        Due.is("31: all is as it was", x.why(0, 0), 0);
        Due.plan(x, ":b0+", 1);
        Due.is("31: the others' are asked", x.best(0, 1, 0), 0);
        Due.is("31: the others' are asked", x.best(0, 0, 0), 0);
        Due.is("32: a plan", x.gain(0, 0, 0), 0);
        Due.is("32: a plan", x.gain(1, 0, 0), 1);
    }

    private static void gain() {
        RaceByLaps x = Due.plain(2, 3);
        for (int k = 0; k < 4; k++) Due.aCar(x, 0, k);
        Due.is("32: nothing to gain", x.gain(0, 0, 0), 0);
        Due.is("32: it would be worse", x.gain(0, 1, 0), 0);
        x.stop(1, 0, -1, 0);
        Due.is("32: two places", x.gain(1, 0, 0), 2);
        Due.is("32: no better with one", x.gain(1, 1, 0), 0);
        Due.rule(x, "t=1&s:X", 1);
        Due.is("32: none as told, behind all 4", x.gain(1, 0, 1), 3);
        Due.is("32: none either way", x.gain(1, 1, 1), 0);
        Due.rule(x, "t=2&!s:X", 2);
        Due.is("32: from 4 to 3", x.gain(2, 1, 2), 2);
        x.result(0);
        Due.is("32: the row stays", x.gain(1, 2, 0), 0);
        Due.row("32: the row stays", x, 0, 2, 3, 1);
        int[][] others = {{-1, 0, 0}, {4, 0, 0}, {0, -1, 0}, {0, 3, 0}, {0, 0, -1}, {0, 0, 100}};
        for (int[] o : others) Due.is("32: others", x.gain(o[0], o[1], o[2]), -1);
        x.car(0, 9, 1, 0, 0, 9);
        Due.is("32: no such way", x.gain(4, 1, 0), -1);
        Due.is("32: out", x.gain(4, 0, 0), 0);
    }

    private static void option() {
        RaceByLaps x = Due.plain(2, 3);
        Due.aCar(x, 0, 0);
        Due.aCar(x, 0, 0);
        int[][] others = {{-1, 0, 0}, {2, 0, 0}, {0, -2, 0}, {0, 2, 0}, {0, 0, 4}, {0, 0, -2}};
        for (int[] o : others) Due.is("33: refused", x.option(o[0], o[1], o[2]), -1);
        Due.is("33: none", x.count(9), 0);
        Due.is("33: no stop", x.option(0, -1, 0), 1);
        Due.is("33: a stop", x.option(0, 0, 3), 2);
        Due.is("33: a stop", x.option(0, 1, 0), 3);
        Due.is("33: a stop", x.option(0, 1, 0), 4);
        Due.is("33: 4", x.option(0, 0, 0), -1);
        Due.is("33: each its own", x.option(1, 0, 0), 1);
        Due.is("33: all of them", x.count(9), 5);
        Due.is("33: a stop without a change", x.option(1, 0, -1), 2);
        Due.is("33: no stop, no set", x.option(1, -1, -1), 3);
        Due.is("33: all of them", x.count(9), 7);
        Due.is("33: none of them is made", x.of(0, 3), 0);
    }

    private static void clear() {
        RaceByLaps x = Due.plain(2, 3);
        Due.is("34: none", x.clear(), 0);
        Due.aCar(x, 0, 0);
        Due.aCar(x, 0, 0);
        x.option(0, 0, 0);
        x.option(0, 1, 0);
        x.option(1, 0, 0);
        Due.is("34: three", x.clear(), 3);
        Due.is("34: none then", x.count(9), 0);
        Due.is("34: none then", x.settle(0, 1, 0), -1);
        Due.is("34: anew", x.option(0, 0, 0), 1);
    }

    private static void settle() {
        RaceByLaps x = falling(3);
        Due.aCar(x, 0, 0);
        x.tyre(0, 0, 0);
        Due.aCar(x, 0, 1);
        x.tyre(1, 0, 0);
        x.option(0, -1, 0);
        x.option(0, 1, 1);
        x.option(0, 0, 1);
        x.option(1, -1, 0);
        Due.is("35: no stop, or two", x.settle(0, 1, 0), 10);
        x.option(1, 0, 1);
        Due.is("35: both stop", x.settle(0, 1, 0), 11);
        Due.is("35: the other way round", x.settle(1, 0, 0), 11);
        Due.is("35: all is as it was", x.of(0, 3), 0);
        Due.is("35: all is as it was", x.of(1, 3), 0);
        Due.rule(x, "s:X", 7);
        Due.is("35: by that day", x.settle(0, 1, 7), 0);
        Due.is("35: by that day", x.settle(0, 1, 6), 11);
        int[][] others = {{-1, 0, 0}, {0, -1, 0}, {2, 0, 0}, {0, 2, 0}, {0, 0, 0}, {0, 1, -1}, {0, 1, 100}};
        for (int[] o : others) Due.is("35: others", x.settle(o[0], o[1], o[2]), -1);
        Due.aCar(x, 0, 2);
        Due.is("35: one without options", x.settle(0, 2, 0), -1);
        Due.is("35: one without options", x.settle(2, 0, 0), -1);
    }

    /**
     * Nobody can pass, a change takes 2000. The faster car 1, held 1500 behind, comes to the front if it stops
     * behind another lap than car 0; if both stop behind the same one it stays behind.
     */
    private static void settleNone() {
        RaceByLaps x = Due.plain(2, 3);
        x.set(0, 1500);
        x.set(3, 0);
        x.set(4, 2000);
        x.set(5, 0);
        x.sector(0, 20000, -1);
        x.sector(1, 20000, -1);
        Due.aCar(x, 0, 0);
        x.tyre(0, 0, 0);
        Due.aCar(x, -1000, 1);
        x.tyre(1, 0, 0);
        for (int car = 0; car < 2; car++) {
            x.option(car, 0, 1);
            x.option(car, 1, 1);
        }
        x.result(0);
        Due.is("35: there is none", x.settle(0, 1, 0), -2);
        Due.is("35: there is none", x.settle(1, 0, 0), -2);
        Due.is("35: the row stays", x.count(7), 2);
        x.option(0, 0, 0);
        Due.is("35: a stop without a change keeps car 0 in front", x.settle(0, 1, 0), 20);
        x.clear();
        for (int car = 0; car < 2; car++) {
            x.option(car, 0, 1);
            x.option(car, 1, 1);
        }
        x.option(0, 0, -1);
        Due.is("35: so does one whose set is NONE", x.settle(0, 1, 0), 20);
        Due.rule(x, "1:X", 1);
        Due.is("35: without places all are equal", x.settle(0, 1, 1), 0);
    }

    private static void settleWithoutPlan() {
        RaceByLaps x = Due.plain(2, 3);
        Due.aCar(x, 0, 0);
        Due.aCar(x, 0, 1);
        x.stop(0, 0, -1, 0);
        Due.plan(x, ":b0", 1);
        Due.rule(x, "s>1:X", 0);
        Due.is("35: two stops", x.place(1, 0), -1);
        x.option(0, 1, 0);
        x.option(0, -1, 0);
        x.option(1, 1, 0);
        x.option(1, -1, 0);
        Due.is("35: no stop at all is best for both", x.settle(0, 1, 0), 11);
        Due.is("35: all is as it was", x.of(0, 3), 1);
        Due.is("35: all is as it was", x.of(1, 3), 2);
    }
}

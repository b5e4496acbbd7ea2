/** Terms 5 and promises 30 to 35: each sentence that names a boundary case. */
public final class TriedEdgesTest {
    private static final int[] NO_DAYS = {-1, 100, Integer.MIN_VALUE, Integer.MAX_VALUE};
    private static final int[] NO_CARS = {-1, 6, Integer.MIN_VALUE, Integer.MAX_VALUE};

    public static void main(String[] args) {
        movedLaps();
        movedOntoAnother();
        movedByDay();
        movedOfNone();
        bestOfNone();
        noWay();
        onlyWay();
        lastWay();
        firstOfEqualOnes();
        lapsAheadOfSets();
        lessSumOfOnePlace();
        bestFuel();
        bestOfTheOthers();
        bestWithItsRow();
        gains();
        gainOfNone();
        options();
        optionFuel();
        optionSets();
        clears();
        settleLast();
        settleFirst();
        settleOfNone();
        bothClasses();
        lastOfSix();
        allAsItWas();
        Due.close();
    }

    /** A car with fuel for two laps, and a tank for two, that comes in behind the first. */
    private static RaceByLaps thirsty(int laps) {
        RaceByLaps x = Due.plain(2, laps);
        x.car(0, 4, 1, 0, 0, 4);
        x.tyre(0, 0, 0);
        x.stop(0, 0, -1, 200);
        return x;
    }

    /** "if its STOP i were behind another LAP": 0 .. n - 2; "-2: it would have none". */
    private static void movedLaps() {
        RaceByLaps x = thirsty(3);
        Due.is("30: as told", x.place(0, 0), 0);
        Due.is("30: behind none", x.move(0, 0, -1, 0), -1);
        Due.is("30: behind the first", x.move(0, 0, 0, 0), 0);
        Due.is("30: behind the last but one", x.move(0, 0, 1, 0), 0);
        Due.is("30: behind the last", x.move(0, 0, 2, 0), -1);
        RaceByLaps y = thirsty(4);
        Due.is("30: as told", y.place(0, 0), -1);
        Due.is("30: behind the first, for two of three laps to go", y.move(0, 0, 0, 0), -2);
        Due.is("30: enough behind the second", y.move(0, 0, 1, 0), 0);
        Due.is("30: too late", y.move(0, 0, 2, 0), -2);
        Due.is("30: behind the last", y.move(0, 0, 3, 0), -1);
        RaceByLaps z = thirsty(12);
        Due.aCar(z, 0, 1);
        z.stop(1, 0, -1, 0);
        for (int lap = 0; lap < 11; lap++) Due.is("30: alone with a place", z.move(1, 0, lap, 0), 0);
    }

    /** Behind the LAP of another one "the one told last holds". */
    private static void movedOntoAnother() {
        String[] rules = {"t=0&s>1:X", "t=0&k<2:X"};
        int[][] due = {{-1, 1, 1, -2}, {1, -2, -2, 1}};
        for (int i = 0; i < 2; i++) {
            RaceByLaps x = Due.plain(2, 4);
            Due.aCar(x, 0, 0);
            Due.aCar(x, 0, 1);
            x.tyre(0, 1, 0);
            Due.rule(x, rules[i], 0);
            x.stop(0, 0, 1, 0);
            x.stop(0, 2, 0, 0);
            Due.is("30: two stops, two kinds", x.place(0, 0), due[i][0]);
            Due.is("30: the first onto the second: that was told last", x.move(0, 0, 2, 0), due[i][1]);
            Due.is("30: the second onto the first: it was told last", x.move(0, 1, 0, 0), due[i][2]);
            Due.is("30: elsewhere there are two", x.move(0, 1, 1, 0), due[i][3]);
            Due.is("30: all is as it was", x.of(0, 3), 2);
            Due.is("30: all is as it was", x.of(0, 4), 2);
        }
    }

    private static void movedByDay() {
        RaceByLaps x = Due.plain(2, 3);
        for (int k = 0; k < 6; k++) Due.aCar(x, 0, k % 4);
        x.stop(5, 0, -1, 0);
        for (int k = 0; k < 5; k++) x.finding(99, k, 1, 60000);
        Due.is("30: by day 98", x.move(5, 0, 1, 98), 5);
        Due.is("30: by day 99", x.move(5, 0, 1, 99), 0);
        for (int day : NO_DAYS) Due.is("30: no such day", x.move(5, 0, 1, day), -1);
    }

    private static void movedOfNone() {
        RaceByLaps x = Due.plain(2, 7);
        Due.is("30: no cars", x.move(0, 0, 0, 0), -1);
        for (int k = 0; k < 6; k++) Due.aCar(x, 0, 0);
        Due.is("30: no stops", x.move(0, 0, 0, 0), -1);
        for (int lap = 0; lap < 5; lap++) x.stop(5, lap, -1, 0);
        Due.is("30: the last of five", x.move(5, 4, 5, 0), 5);
        for (int stop : new int[] {-1, 5, Integer.MIN_VALUE, Integer.MAX_VALUE}) Due.is("30: no such stop", x.move(5, stop, 0, 0), -1);
        for (int car : NO_CARS) Due.is("30: no such car", x.move(car, 0, 0, 0), -1);
        for (int lap : new int[] {-1, 6, Integer.MIN_VALUE, Integer.MAX_VALUE}) Due.is("30: no such lap", x.move(5, 0, lap, 0), -1);
    }

    /** "NONE: no such CAR, m, DAY". */
    private static void bestOfNone() {
        RaceByLaps x = Due.plain(2, 3);
        Due.is("31: no cars", x.best(0, 0, 0), -1);
        for (int k = 0; k < 6; k++) Due.aCar(x, 0, 0);
        x.result(0);
        for (int car : NO_CARS) {
            Due.is("31: no such car", x.best(car, 0, 0), -1);
            Due.is("32: no such car", x.gain(car, 0, 0), -1);
        }
        for (int m : new int[] {-1, 3, Integer.MIN_VALUE, Integer.MAX_VALUE}) {
            Due.is("31: no such m", x.best(5, m, 0), -1);
            Due.is("32: no such m", x.gain(5, m, 0), -1);
        }
        for (int day : NO_DAYS) {
            Due.is("31: no such day", x.best(5, 0, day), -1);
            Due.is("32: no such day", x.gain(5, 0, day), -1);
        }
        Due.row("31: the row stays", x, 0, 1, 2, 3, 4, 5);
        for (int m = 0; m <= 2; m++) Due.is("31: the last car, m " + m, x.best(5, m, 99), 5);
    }

    /** "no such way": too few LAPS for so many STOPS, or no SETS. */
    private static void noWay() {
        for (int n = 1; n <= 4; n++) {
            RaceByLaps x = Due.plain(2, n);
            x.car(0, 200, 1, 0, 0, 200);
            x.result(0);
            for (int m = 0; m <= 2; m++) {
                Due.is("31: no sets, m " + m, x.best(0, m, 0), m == 0 ? -2 : -1);
                Due.is("32: no sets, m " + m, x.gain(0, m, 0), m == 0 ? 0 : -1);
            }
            x.tyre(0, 0, 0);
            for (int m = 0; m <= 2; m++) {
                Due.is("31: of " + n + " laps, m " + m, x.best(0, m, 0), m < n ? 0 : -1);
                Due.is("32: of " + n + " laps, m " + m, x.gain(0, m, 0), m < n ? 0 : -1);
            }
        }
    }

    /** n LAPS, n - 1 STOPS: "the first ahead of the second". */
    private static void onlyWay() {
        RaceByLaps x = Due.plain(2, 2);
        Due.aCar(x, 0, 0);
        Due.is("31: one lap for it", x.best(0, 1, 0), 0);
        Due.row("31: the only way", x, 0, 0);
        Due.is("31: none for two", x.best(0, 2, 0), -1);
        Due.row("31: the row stays", x, 0, 0);
        x.track(2, 3);
        Due.aCar(x, 0, 0);
        Due.is("31: two laps for them", x.best(0, 2, 0), 0);
        Due.row("31: the only way", x, 0, 0, 1, 0);
        Due.is("31: no stop", x.best(0, 0, 0), 0);
        Due.row("31: an empty row", x);
    }

    /** Slower sets that have to be put on all the same: as late as can be, and of four the last two. */
    private static void lastWay() {
        for (int n = 3; n <= 12; n++) {
            RaceByLaps x = Due.plain(2, n);
            x.set(5, 0);
            for (int kind = 1; kind < 4; kind++) x.tyres(kind, 0, 1000 * (4 - kind) - 1);
            x.car(0, 200, 1, 0, 0, 200);
            for (int set = 0; set < 4; set++) x.tyre(0, set, 0);
            Due.rule(x, "k<3:X", 0);
            Due.rule(x, "k<2:X", 9);
            Due.is("31: one stop gives two kinds", x.best(0, 1, 0), -2);
            Due.is("31: two stops, three kinds", x.best(0, 2, 0), 0);
            Due.row("31: the last laps, the last sets", x, n - 3, 2, n - 2, 3);
        }
        RaceByLaps x = Due.plain(2, 12);
        x.set(5, 0);
        x.tyres(1, 0, 999);
        Due.aCar(x, 0, 0);
        for (int i = 0; i < 3; i++) x.tyre(0, 1, 0);
        Due.rule(x, "k<2:X", 0);
        Due.is("31: one stop", x.best(0, 1, 0), 0);
        Due.row("31: the last lap, the first of three equal sets", x, 10, 1);
    }

    /** "Of equal ones the first: by the first LAP, the second one, the first SET, the second one". */
    private static void firstOfEqualOnes() {
        RaceByLaps x = Due.plain(2, 12);
        x.set(4, 0);
        x.set(5, 0);
        Due.aCar(x, 0, 0);
        for (int set = 1; set < 4; set++) x.tyre(0, 0, 0);
        Due.is("31: all equal, two", x.best(0, 2, 0), 0);
        Due.row("31: the first", x, 0, 0, 1, 0);
        Due.is("31: all equal, one", x.best(0, 1, 0), 0);
        Due.row("31: the first", x, 0, 0);
        x.set(4, 1);
        Due.is("31: a change costs", x.best(0, 2, 0), 0);
        Due.row("31: none", x, 0, 0, 1, 0);
        Due.rule(x, "1:X", 5);
        Due.is("31: none has a place", x.best(0, 2, 5), -2);
        Due.row("31: the first", x, 0, 0, 1, 0);
        Due.is("31: none has a place", x.best(0, 1, 5), -2);
        Due.row("31: the first", x, 0, 0);
        Due.is("31: none has a place", x.best(0, 0, 5), -2);
        Due.row("31: no stop", x);
    }

    /**
     * KIND 0 falls in its seventh sector, KIND 1 in its third: of four laps either set 1 is on for one alone. So it
     * is put on behind the first and off behind the second, though with later laps the first SET would be 0.
     */
    private static void lapsAheadOfSets() {
        RaceByLaps x = Due.plain(2, 4);
        x.set(4, 0);
        x.set(5, 0);
        int[] cliffs = {6, 2};
        for (int kind = 0; kind < 2; kind++) {
            x.tyres(kind, 2, cliffs[kind]);
            x.tyres(kind, 3, 5000);
        }
        Due.aCar(x, 0, 0);
        x.tyre(0, 1, 0);
        Due.is("31: the second lap less, the first set more", x.best(0, 2, 0), 0);
        Due.row("31: laps ahead of sets", x, 0, 1, 1, 0);
        Due.is("31: one stop", x.best(0, 1, 0), 0);
        Due.row("31: set 1 for the last lap alone", x, 2, 1);
        x.tyres(1, 2, 4);
        x.tyres(0, 2, 4);
        Due.is("31: four sectors each", x.best(0, 2, 0), 0);
        Due.row("31: the first set less", x, 0, 0, 1, 1);
    }

    /** "the least PLACE (none behind all), then the least SUM". */
    private static void lessSumOfOnePlace() {
        RaceByLaps x = Due.plain(2, 4);
        x.set(5, 0);
        x.rain(0, 100000, 100);
        x.rain(1, 100000, 100);
        x.tyres(1, 4, 100);
        Due.aCar(x, 0, 0);
        x.tyre(0, 1, 0);
        x.tyres(0, 5, 100);
        Due.is("31: it is alone", x.best(0, 1, 0), 0);
        Due.row("31: the sum tells", x, 1, 1);
        Due.rule(x, "k=2:X", 1);
        Due.is("31: a place is better than a sum", x.best(0, 1, 1), 0);
        Due.row("31: no second kind", x, 0, 0);
        Due.rule(x, "s:X", 2);
        Due.is("31: none at all", x.best(0, 1, 2), -2);
        Due.is("31: but without", x.best(0, 0, 2), 0);
    }

    /** "200 FUEL": the whole of the largest tank. */
    private static void bestFuel() {
        for (int enough = 2; enough <= 3; enough++) {
            RaceByLaps x = Due.plain(2, 12);
            x.car(0, 200, 9, 0, 0, 18);
            x.tyre(0, 0, 0);
            Due.rule(x, "f<" + enough + ":X", 0);
            Due.is("31: 200 less 22 times 9 is 2", x.best(0, 1, 0), enough == 2 ? 0 : -2);
            Due.row("31: it has to come at once", x, 0, 0);
            Due.is("31: none can do without", x.best(0, 0, 0), -2);
        }
        RaceByLaps x = Due.plain(2, 12);
        x.car(0, 199, 9, 0, 0, 18);
        x.tyre(0, 0, 0);
        Due.rule(x, "f>1:X", 0);
        Due.is("31: no more than the tank", x.best(0, 1, 0), 0);
    }

    /** The STOPS and PLANS of the others stay as they are. */
    private static void bestOfTheOthers() {
        RaceByLaps x = Due.plain(2, 3);
        for (int k = 0; k < 6; k++) Due.aCar(x, 0, k % 4);
        for (int k = 0; k < 5; k++) x.stop(k, 0, -1, 0);
        Due.plan(x, ":b0", 5);
        for (int lap = 0; lap < 2; lap++) x.stop(5, lap, -1, 0);
        Due.is("31: without any it comes first", x.best(5, 0, 0), 0);
        Due.is("31: with one it is last", x.best(5, 1, 0), 5);
        Due.is("32: from the last place to the first", x.gain(5, 0, 0), 5);
        Due.is("32: one is no gain", x.gain(5, 1, 0), 0);
        Due.is("31: all is as it was", x.of(5, 3), 2);
        Due.is("31: all is as it was", x.why(5, 0), 0);
    }

    /** "(-2: none, with its ROW all the same)", where a ROW was told before. */
    private static void bestWithItsRow() {
        RaceByLaps x = Due.plain(2, 3);
        for (int k = 0; k < 6; k++) Due.aCar(x, 0, 0);
        Due.rule(x, "1:X", 50);
        for (int m = 0; m <= 2; m++) {
            x.result(0);
            Due.is("31: none", x.best(0, m, 50), -2);
            Due.is("31: numbers of the row", x.count(7), 2 * m);
        }
        x.result(0);
        Due.is("32: nothing to gain", x.gain(0, 2, 50), 0);
        Due.is("30: refused", x.move(0, 0, 0, 50), -1);
        x.stop(0, 0, -1, 0);
        Due.is("30: none", x.move(0, 0, 1, 50), -2);
        Due.is("35: one without options", x.settle(0, 1, 50), -1);
        Due.row("30: the row stays", x, 0, 1, 2, 3, 4, 5);
    }

    /** "how many PLACES it would be better than as told (0 at least)". */
    private static void gains() {
        for (int stops = 0; stops <= 2; stops++) {
            RaceByLaps x = Due.plain(2, 4);
            for (int k = 0; k < 6; k++) Due.aCar(x, 0, k % 4);
            for (int lap = 0; lap < stops; lap++) x.stop(0, lap, -1, 0);
            Due.is("32: as told", x.place(0, 0), stops == 0 ? 0 : 5);
            Due.is("32: with none", x.gain(0, 0, 0), stops == 0 ? 0 : 5);
            Due.is("32: with one", x.gain(0, 1, 0), 0);
            Due.is("32: with two", x.gain(0, 2, 0), 0);
        }
    }

    /** "CARS without a PLACE count as the place behind all CARS": those that are OUT count too. */
    private static void gainOfNone() {
        for (int cars = 1; cars <= 6; cars++) {
            RaceByLaps x = Due.plain(2, 3);
            for (int k = 0; k < cars; k++) x.car(0, 9, 1, 0, 0, 9);
            int last = cars - 1;
            x.tyre(last, 0, 0);
            Due.rule(x, "!s:X", 0);
            Due.is("26: none as told", x.place(last, 0), -1);
            Due.is("31: the first with one", x.best(last, 1, 0), 0);
            Due.is("32: of " + cars, x.gain(last, 1, 0), cars);
            Due.is("32: none either way", x.gain(last, 0, 0), 0);
            x.stop(last, 0, -1, 0);
            Due.is("32: a place as told, none then", x.gain(last, 0, 0), 0);
            Due.is("32: a place as told", x.gain(last, 1, 0), 0);
        }
    }

    /** "An OPTION of a CAR (at most 4 each)", "behind a LAP .. or none (LAP NONE)". */
    private static void options() {
        for (int n = 1; n <= 12; n++) {
            RaceByLaps x = Due.plain(2, n);
            Due.is("33: no cars", x.option(0, -1, 0), -1);
            for (int k = 0; k < 6; k++) Due.aCar(x, 0, 0);
            Due.is("33: below NONE", x.option(0, -2, 0), -1);
            Due.is("33: behind the last", x.option(0, n - 1, 0), -1);
            Due.is("33: no stop", x.option(0, -1, 0), 1);
            Due.is("33: behind the last but one", x.option(0, n - 2, 3), 2);
            for (int i = 3; i <= 4; i++) Due.is("33: told", x.option(0, -1, 0), i);
            Due.is("33: a fifth", x.option(0, -1, 0), -1);
            for (int k = 1; k < 6; k++) for (int i = 1; i <= 4; i++) Due.is("33: each its own", x.option(k, -1, 3), i);
            Due.is("15: all", x.count(9), 24);
            for (int car : NO_CARS) Due.is("33: no such car", x.option(car, -1, 0), -1);
        }
    }

    /** "200 FUEL". */
    private static void optionFuel() {
        for (int enough = 2; enough <= 3; enough++) {
            RaceByLaps x = Due.plain(2, 12);
            x.car(0, 200, 9, 0, 0, 18);
            x.tyre(0, 0, 0);
            Due.aCar(x, 0, 1);
            Due.rule(x, "t=0&f<" + enough + ":X", 0);
            x.option(0, -1, 0);
            x.option(0, 0, 0);
            x.option(1, -1, 0);
            Due.is("35: 200 less 22 times 9 is 2", x.settle(0, 1, 0), enough == 2 ? 10 : 0);
        }
    }

    /** "a SET": as of a STOP NONE .. 3, one told later too. */
    private static void optionSets() {
        for (int set = -2; set <= 4; set++) {
            RaceByLaps x = Due.plain(2, 2);
            Due.aCar(x, 0, 0);
            Due.aCar(x, 0, 1);
            x.option(0, -1, 0);
            Due.is("33: set " + set, x.option(0, 0, set), set < -1 || set > 3 ? -1 : 2);
            if (set < -1 || set > 3) continue;
            x.option(1, -1, 0);
            for (int i = 1; i < 4; i++) x.tyre(0, i, 0);
            Due.rule(x, "t=0&s<1:X", 0);
            Due.rule(x, "t=0&k<2:X", 1);
            Due.is("35: a stop", x.settle(0, 1, 0), 10);
            Due.is("35: another kind, or none", x.settle(0, 1, 1), set > 0 ? 10 : 0);
        }
    }

    /** "No OPTIONS: how many there were." */
    private static void clears() {
        RaceByLaps x = Due.plain(2, 3);
        Due.is("34: no cars", x.clear(), 0);
        for (int k = 0; k < 6; k++) x.car(0, 9, 1, 0, 0, 9);
        Due.is("34: none", x.clear(), 0);
        for (int k = 0; k < 6; k++) for (int i = 0; i < 4; i++) x.option(k, i % 3 - 1, i);
        Due.is("34: all", x.clear(), 24);
        Due.is("15: none", x.count(9), 0);
        Due.is("34: none then", x.clear(), 0);
        Due.is("33: the first again", x.option(5, -1, 0), 1);
        Due.is("34: the one of the last car", x.clear(), 1);
    }

    /** "10 times a's and b's": of four each the last ones. */
    private static void settleLast() {
        for (int i = 0; i < 4; i++) {
            for (int j = 0; j < 4; j++) {
                RaceByLaps x = Due.plain(2, 3);
                for (int k = 0; k < 6; k++) Due.aCar(x, 0, k % 4);
                for (int at = 0; at < 4; at++) {
                    x.option(4, at == i ? 0 : -1, 0);
                    x.option(5, at == j ? 1 : -1, 0);
                }
                Due.rule(x, "!s:X", 0);
                Due.is("35: each its only one", x.settle(4, 5, 0), 10 * i + j);
                Due.is("35: the other way round", x.settle(5, 4, 0), 10 * j + i);
                Due.is("35: without the rule none stops", x.settle(4, 5, 99), 10 * i + j);
            }
        }
    }

    /** "the first pair (by a's, then b's)": of equal ones 0 and 0; with one each there is but that. */
    private static void settleFirst() {
        RaceByLaps x = Due.plain(2, 3);
        Due.aCar(x, 0, 0);
        Due.aCar(x, 0, 1);
        x.option(0, 1, 0);
        x.option(1, 0, 0);
        Due.is("35: one each", x.settle(0, 1, 0), 0);
        for (int i = 1; i < 4; i++) {
            x.option(0, 1, 0);
            x.option(1, 0, 0);
        }
        Due.is("35: all equal", x.settle(0, 1, 0), 0);
        Due.is("35: all equal", x.settle(1, 0, 0), 0);
        x.clear();
        for (int k = 0; k < 2; k++) {
            x.option(k, 0, 0);
            x.option(k, -1, 0);
        }
        Due.is("35: both do without", x.settle(0, 1, 0), 11);
        Due.rule(x, "1:X", 3);
        Due.is("35: no places, no sums: equal", x.settle(0, 1, 3), 0);
        Due.is("35: by the day ahead of that", x.settle(0, 1, 2), 11);
    }

    /** "NONE: others, one without OPTIONS". */
    private static void settleOfNone() {
        RaceByLaps x = Due.plain(2, 3);
        Due.is("35: no cars", x.settle(0, 1, 0), -1);
        for (int k = 0; k < 6; k++) Due.aCar(x, 0, 0);
        Due.is("35: no options", x.settle(0, 1, 0), -1);
        x.option(0, -1, 0);
        Due.is("35: one without", x.settle(0, 1, 0), -1);
        Due.is("35: one without", x.settle(1, 0, 0), -1);
        x.option(1, -1, 0);
        Due.is("35: both have", x.settle(0, 1, 0), 0);
        Due.is("35: one of them with itself", x.settle(0, 0, 0), -1);
        for (int car : NO_CARS) {
            Due.is("35: no such car", x.settle(car, 0, 0), -1);
            Due.is("35: no such car", x.settle(0, car, 0), -1);
        }
        for (int day : NO_DAYS) Due.is("35: no such day", x.settle(0, 1, day), -1);
    }

    /** "then all is as it was". */
    private static void allAsItWas() {
        String untouched = Seen.of(tryable());
        for (int what = 0; what < 8; what++) {
            RaceByLaps x = tryable();
            switch (what) {
                case 0 -> x.move(0, 0, 1, 0);
                case 1 -> x.move(0, 1, 0, 0);
                case 2 -> x.gain(0, 0, 0);
                case 3 -> x.gain(0, 1, 0);
                case 4 -> x.gain(1, 2, 0);
                case 5 -> x.settle(0, 1, 0);
                case 6 -> x.settle(1, 0, 9);
                default -> x.gain(2, 2, 0);
            }
            Due.is("30: all is as it was, try " + what, Seen.of(x).equals(untouched), true);
        }
    }

    private static RaceByLaps tryable() {
        RaceByLaps x = Due.plain(2, 4);
        for (int k = 0; k < 3; k++) {
            x.car(-100 * k, 60, 2, k % 2, 0, 30);
            for (int set = 0; set < 2; set++) x.tyre(k, set, 3);
            for (int i = 0; i < 2; i++) x.option(k, i, i);
        }
        x.stop(0, 0, 1, 9);
        x.stop(0, 2, 0, 9);
        Due.plan(x, "t=0:b1+;:=", 1);
        x.order(2, 1, 0, -1);
        x.result(0);
        return x;
    }

    /** PLACES are among all CARS, of whatever CLASS. */
    private static void bothClasses() {
        for (int clas = 0; clas < 2; clas++) {
            RaceByLaps x = Due.plain(2, 3);
            for (int k = 0; k < 3; k++) {
                x.car(k == 2 ? -2000 : 0, 200, 1, k, k == 2 ? clas : 1 - clas, 200);
                x.tyre(k, 0, 0);
            }
            x.stop(2, 0, -1, 0);
            Due.is("26: as told", x.place(2, 0), 2);
            Due.is("28: alone in its class", x.within(2, 0), 0);
            Due.is("30: elsewhere it is no better", x.move(2, 0, 1, 0), 2);
            Due.is("31: without it is", x.best(2, 0, 0), 0);
            Due.is("31: with one it is not", x.best(2, 1, 0), 2);
            Due.is("32: two places", x.gain(2, 0, 0), 2);
            for (int k = 1; k < 3; k++) {
                x.option(k, 0, 0);
                x.option(k, -1, 0);
            }
            Due.is("35: both do without", x.settle(1, 2, 0), 11);
        }
    }

    /** The last CAR, with a SUM that tells which try is better. */
    private static void lastOfSix() {
        RaceByLaps x = Due.plain(2, 12);
        x.set(5, 0);
        x.tyres(1, 0, 999);
        for (int k = 0; k < 5; k++) x.car(0, 9, 1, 0, 0, 9);
        Due.aCar(x, 0, 0);
        for (int i = 0; i < 3; i++) x.tyre(5, 1, 0);
        Due.rule(x, "k<2:X", 0);
        Due.is("31: alone", x.best(5, 1, 0), 0);
        Due.row("31: the least sum", x, 10, 1);
        x.tyre(4, 0, 0);
        x.option(4, -1, 0);
        x.option(5, -1, 0);
        x.option(5, 9, 1);
        x.option(5, 10, 1);
        Due.is("35: the least sum", x.settle(4, 5, 0), 2);
        Due.is("35: the other way round", x.settle(5, 4, 0), 20);
    }
}

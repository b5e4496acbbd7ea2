/** Terms 2 (but for plans) and promises 8 to 12 and 15: each sentence that names a boundary case. */
public final class CarsEdgesTest {
    public static void main(String[] args) {
        sixCars();
        offs();
        tanks();
        burns();
        teams();
        classes();
        carAnew();
        fourSets();
        ages();
        withoutSet();
        lags();
        lagBehindTheLast();
        ordersAtOnce();
        boldOrders();
        twelveOrders();
        lapsOfStops();
        setsOfStops();
        fuelOfStops();
        stopsForNothing();
        stopsOfOneLap();
        fiveStops();
        drops();
        counts();
        Due.close();
    }

    /** "CARS 0 .. (at most 6)": the sixth races, a seventh is refused. */
    private static void sixCars() {
        RaceByLaps x = Due.plain(2, 1);
        for (int k = 0; k < 6; k++) Due.is("8: its number", Due.aCar(x, 0, 0), k);
        Due.is("8: a seventh", x.car(0, 9, 1, 0, 0, 9), -1);
        Due.is("8: no set for it", x.tyre(6, 0, 0), -1);
        Due.is("8: 6", x.count(2), 6);
        for (int k = 0; k < 6; k++) Due.is("8: each one races", x.at(k, 0, 1), 40000 + 500 * k);
    }

    /** "OFF (-2000 .. 2000)". */
    private static void offs() {
        for (int off = -2000; off <= 2000; off += 4000) {
            RaceByLaps x = Due.plain(2, 1);
            Due.is("8: too fast", x.car(-2001, 9, 1, 0, 0, 9), -1);
            Due.is("8: too slow", x.car(2001, 9, 1, 0, 0, 9), -1);
            Due.is("8: as told", Due.aCar(x, off, 0), 0);
            Due.is("8: off", x.at(0, 0, 0), 20000 + off);
        }
    }

    /** "TANK (1 .. 200)", "FUEL at the start (0 .. TANK)". */
    private static void tanks() {
        RaceByLaps x = Due.plain(2, 2);
        Due.is("8: no tank", x.car(0, 0, 1, 0, 0, 0), -1);
        Due.is("8: too large", x.car(0, 201, 1, 0, 0, 0), -1);
        Due.is("8: more than it holds", x.car(0, 1, 1, 0, 0, 2), -1);
        Due.is("8: less than nothing", x.car(0, 1, 1, 0, 0, -1), -1);
        Due.is("8: the least, full", x.car(0, 1, 1, 0, 0, 1), 0);
        Due.is("8: the least, empty", x.car(0, 1, 1, 1, 0, 0), 1);
        Due.is("8: the most, full", x.car(0, 200, 1, 2, 0, 200), 2);
        Due.is("8: more than it holds", x.car(0, 200, 1, 2, 0, 201), -1);
        int[] fuel = {1, 0, 200};
        for (int k = 0; k < 3; k++) Due.is("8: fuel", x.of(k, 6), fuel[k]);
        for (int k = 0; k < 3; k++) x.tyre(k, 0, 0);
        int[] sectors = {1, 0, 4};
        for (int k = 0; k < 3; k++) Due.is("8: sectors", x.of(k, 2), sectors[k]);
    }

    /** "BURN (1 .. 9)": with just as much it is not OUT. */
    private static void burns() {
        for (int burn = 0; burn <= 10; burn++) {
            RaceByLaps x = Due.plain(2, 1);
            Due.is("8: burn " + burn, x.car(0, 200, burn, 0, 0, 2 * burn), burn == 0 || burn == 10 ? -1 : 0);
            if (burn == 0 || burn == 10) continue;
            x.tyre(0, 0, 0);
            Due.is("8: just enough", x.of(0, 0), 1);
            Due.is("8: nothing left", x.of(0, 6), 0);
            x.car(0, 200, burn, 0, 0, 2 * burn - 1);
            x.tyre(1, 0, 0);
            Due.is("8: 1 less is not", x.of(1, 0), 2);
            Due.is("8: what is left", x.of(1, 6), burn - 1);
        }
    }

    /** "TEAM 0 .. 3": each has a BOX, and one alone. */
    private static void teams() {
        for (int a = 0; a < 4; a++) {
            for (int b = 0; b < 4; b++) {
                RaceByLaps x = Due.plain(2, 2);
                int[] teams = {a, b};
                for (int k = 0; k < 2; k++) {
                    x.car(0, 200, 1, teams[k], 0, 100);
                    x.tyre(k, 0, 0);
                    x.stop(k, 0, -1, 40);
                }
                Due.is("8: the first of team " + a, x.waited(0), 0);
                Due.is("8: the second of team " + b, x.waited(1), a == b ? 1500 : 0);
            }
        }
    }

    /** "CLASS 0 .. 1". */
    private static void classes() {
        RaceByLaps x = Due.plain(2, 1);
        Due.is("8: below", x.car(0, 9, 1, 0, -1, 9), -1);
        Due.is("8: above", x.car(0, 9, 1, 0, 2, 9), -1);
        for (int k = 0; k < 4; k++) {
            x.car(0, 9, 1, 0, k % 2, 9);
            x.tyre(k, 0, 0);
        }
        for (int k = 0; k < 4; k++) Due.is("8: of its class", x.within(k, 0), k / 2);
    }

    /** "A CAR without SETS, ORDERS, STOPS", and without all else that one of its number had on the track before. */
    private static void carAnew() {
        RaceByLaps x = Due.plain(2, 3);
        Due.aCar(x, 0, 0);
        x.tyre(0, 3, 100);
        for (int i = 0; i < 12; i++) x.order(0, 0, 0, 1);
        for (int i = 0; i < 5; i++) x.stop(0, 0, 1, 1);
        for (int i = 0; i < 4; i++) x.option(0, 0, 1);
        Due.plan(x, ":b1+", 0);
        Due.is("8: the old one", x.at(0, 0, 0), 20200);
        Due.is("8: the old one", x.of(0, 3), 2);
        x.track(2, 3);
        x.car(0, 50, 1, 0, 0, 20);
        Due.is("8: no sets", x.of(0, 0), 2);
        Due.is("8: its first set", x.tyre(0, 0, 0), 0);
        Due.is("8: no orders", x.at(0, 0, 0), 20000);
        Due.is("8: no stops", x.of(0, 3), 0);
        Due.is("8: no stop to drop", x.drop(0, 0), -1);
        Due.is("8: no plan", x.why(0, 0), -1);
        Due.is("8: no plan", x.unplan(0), false);
        Due.is("8: no options", x.count(9), 0);
        Due.is("8: its first order", x.order(0, 2, 0, 1), 1);
        Due.is("8: its first stop", x.stop(0, 0, -1, 0), 1);
        Due.is("8: its first option", x.option(0, -1, 0), 1);
    }

    /** "SETS 0 .. (at most 4 of a CAR)": the fourth can be put on, a fifth is refused. */
    private static void fourSets() {
        for (int set = 0; set < 4; set++) {
            RaceByLaps x = Due.plain(2, 2);
            x.car(0, 200, 1, 0, 0, 200);
            for (int i = 0; i < 4; i++) Due.is("9: its number", x.tyre(0, i, 10 * i), i);
            Due.is("9: a fifth", x.tyre(0, 0, 0), -1);
            x.stop(0, 0, set, 0);
            Due.is("9: set on", x.of(0, 7), set);
            Due.is("9: its age", x.of(0, 8), set == 0 ? 4 : 10 * set + 2);
            Due.is("9: kinds", x.of(0, 4), set == 0 ? 1 : 2);
            for (int what = 0; what < 4; what++) x.tyres(what, 0, 100 * (what + 1));
            Due.is("9: its kind", x.at(0, 1, 0) - x.at(0, 0, 1), 15000 + (set == 0 ? 0 : 3000) + 20000 + 100 * (set + 1));
        }
        RaceByLaps x = Due.plain(2, 2);
        Due.is("9: no car", x.tyre(0, 0, 0), -1);
        for (int k = 0; k < 6; k++) x.car(0, 9, 1, 0, 0, 9);
        for (int k = 0; k < 6; k++) for (int i = 0; i < 4; i++) Due.is("9: each its own", x.tyre(k, 0, 0), i);
    }

    /** "an AGE (0 .. 100)". */
    private static void ages() {
        RaceByLaps x = Due.plain(2, 1);
        x.car(0, 9, 1, 0, 0, 9);
        Due.is("9: below", x.tyre(0, 0, -1), -1);
        Due.is("9: above", x.tyre(0, 0, 101), -1);
        Due.is("9: the most", x.tyre(0, 0, 100), 0);
        Due.is("9: two sectors older", x.of(0, 8), 102);
        Due.is("9: the least", x.tyre(0, 0, 0), 1);
        for (int kind = -1; kind <= 4; kind += 5) Due.is("9: no such kind", x.tyre(0, kind, 0), -1);
    }

    /** "without one it does not start: it is OUT", and in nobody's way. */
    private static void withoutSet() {
        RaceByLaps x = Due.plain(2, 2);
        for (int k = 0; k < 3; k++) x.car(0, 9, 1, 0, 0, 9);
        int[] due = {2, 0, 0, 0, 0, 0, 9, -1, -1, 0, 0};
        for (int k = 0; k < 3; k++) for (int what = 0; what < 11; what++) Due.is("16: of " + what, x.of(k, what), due[what]);
        for (int k = 0; k < 3; k++) {
            Due.is("17: nowhere", x.at(k, 0, 0), -1);
            Due.is("18: nobody", x.led(0, k), -1);
            Due.is("19: nothing", x.waited(k), 0);
            Due.is("26: no place", x.place(k, 0), -1);
        }
        x.tyre(1, 0, 0);
        Due.is("3: the one that starts", x.at(1, 0, 0), 20300);
        x.stop(0, 0, -1, 0);
        x.stop(2, 0, -1, 0);
        Due.is("11: stops of one that does not", x.of(0, 3), 0);
        x.tyre(0, 0, 0);
        Due.is("9: a set told late", x.of(0, 0), 1);
    }

    /** "heard as it begins its SECTOR of number LAP times s and LAG (of its own, from 0 on)"; LAG 0 .. 9. */
    private static void lags() {
        for (int lag = 0; lag <= 9; lag++) {
            RaceByLaps x = Due.plain(4, 5);
            x.set(7, lag);
            Due.aCar(x, 0, 0);
            Due.aCar(x, 2000, 1);
            Due.is("10: an order", x.order(0, 1, 0, 1), 1);
            for (int q = 0; q < 20; q++) {
                int since = Math.max(0, q + 1 - 4 - lag);
                Due.is("10: lag " + lag + " at " + q, x.at(0, q / 4, q % 4), 20000 * (q + 1) + 200 * since);
            }
            Due.is("10: the other car heard none", x.at(1, 1, 3), 300 + 8 * 22000);
        }
        RaceByLaps x = Due.plain(2, 2);
        Due.is("10: no such lag", x.set(7, 10), -1);
        Due.is("10: no such lag", x.set(7, -1), -1);
        Due.is("10: as it was", x.set(7, 9), 0);
    }

    /** "told for a LAP (0: the first)": up to the last SECTOR of the last one, or never. */
    private static void lagBehindTheLast() {
        for (int lag = 0; lag <= 9; lag++) {
            RaceByLaps x = Due.plain(5, 3);
            x.set(7, lag);
            Due.aCar(x, 0, 0);
            Due.is("10: no such lap", x.order(0, 3, 0, -1), -1);
            Due.is("10: no such lap", x.order(0, -1, 0, -1), -1);
            Due.is("10: the last lap", x.order(0, 2, 0, -1), 1);
            Due.is("10: lag " + lag, x.at(0, 2, 4), 300000 - 200 * Math.max(0, 5 - lag));
            Due.is("10: the first lap", x.order(0, 0, 0, -1), 2);
            Due.is("10: lag " + lag, x.at(0, 2, 4), 300000 - 200 * (15 - lag));
        }
    }

    /** "of those that are heard at once the one told last", "stay so until they are told otherwise". */
    private static void ordersAtOnce() {
        RaceByLaps x = Due.plain(2, 3);
        Due.aCar(x, 0, 0);
        x.order(0, 1, 0, -1);
        x.order(0, 1, 0, 1);
        Due.is("10: 1 was told last", x.at(0, 1, 0), 60200);
        x.order(0, 1, 0, 0);
        Due.is("10: 0 was told last", x.at(0, 1, 0), 60000);
        x.order(0, 1, 0, -1);
        Due.is("10: -1 was told last", x.at(0, 1, 0), 59800);
        x.order(0, 1, 1, 1);
        x.order(0, 1, 1, 0);
        Due.is("10: mode is not bold", x.at(0, 1, 0), 59800);
        Due.is("10: it stays so", x.at(0, 2, 1), 40000 + 4 * 19800);
        x.order(0, 0, 0, 1);
        Due.is("10: told last, but heard earlier", x.at(0, 2, 1), 2 * 20200 + 4 * 19800);
        x.order(0, 2, 0, 0);
        Due.is("10: till it is told otherwise", x.at(0, 2, 1), 2 * 20200 + 2 * 19800 + 2 * 20000);
    }

    /** "BOLD 0, 1 (0)": at first it is 0. */
    private static void boldOrders() {
        RaceByLaps x = Due.plain(2, 2);
        x.flag(-1, 0, 1000000, 0);
        Due.aCar(x, 0, 0);
        Due.aCar(x, -1000, 1);
        Due.is("10: not bold", x.at(1, 0, 0), 20500);
        Due.is("10: bold 0 may be told", x.order(1, 1, 1, 0), 1);
        Due.is("10: no bolder", x.at(1, 1, 0), 60500);
        Due.is("10: bold 1", x.order(1, 1, 1, 1), 2);
        Due.is("10: it passes", x.at(1, 1, 0), 59500);
        Due.is("10: held before", x.at(1, 0, 1), 40500);
        Due.is("16: an offence", x.of(1, 5), 1);
        Due.is("10: bold 0 told last", x.order(1, 1, 1, 0), 3);
        Due.is("10: held", x.at(1, 1, 0), 60500);
        x.order(1, 0, 1, 1);
        Due.is("10: bold in the first lap", x.at(1, 0, 0), 19300);
        Due.is("10: till it is told otherwise: in front by then", x.at(1, 1, 0), 57300);
        for (int v : new int[] {-1, 2}) Due.is("10: no such bold", x.order(1, 0, 1, v), -1);
    }

    /** "ORDERS to a CAR (at most 12)": the twelfth holds, a thirteenth does not. */
    private static void twelveOrders() {
        RaceByLaps x = Due.plain(2, 12);
        for (int k = 0; k < 2; k++) Due.aCar(x, 0, k);
        for (int lap = 0; lap < 12; lap++) Due.is("10: told", x.order(0, lap, 0, lap % 2 == 0 ? 1 : -1), lap + 1);
        for (int lap = 0; lap < 12; lap++) {
            int took = x.at(0, lap, 1) - (lap == 0 ? 0 : x.at(0, lap - 1, 1));
            Due.is("10: lap " + lap, took, lap % 2 == 0 ? 40400 : 39600);
        }
        Due.is("10: a thirteenth", x.order(0, 11, 0, 1), -1);
        Due.is("10: is not heard", x.at(0, 11, 1), 6 * 80000);
        Due.is("10: the other car has none", x.order(1, 0, 0, 0), 1);
    }

    /** "behind a LAP (0 .. n - 2)". */
    private static void lapsOfStops() {
        for (int n = 1; n <= 12; n++) {
            RaceByLaps x = Due.plain(2, n);
            Due.aCar(x, 0, 0);
            Due.is("11: behind none", x.stop(0, -1, -1, 0), -1);
            Due.is("11: behind the last", x.stop(0, n - 1, -1, 0), -1);
            Due.is("11: none was told", x.of(0, 3), 0);
            Due.is("11: behind the one ahead of it", x.stop(0, n - 2, -1, 0), n == 1 ? -1 : 1);
            if (n == 1) continue;
            Due.is("11: there it is made", x.of(0, 3), 1);
            Due.is("11: till then none", x.at(0, n - 2, 1), 40000 * (n - 1));
            Due.is("11: the last lap behind it", x.at(0, n - 1, 0), 40000 * (n - 1) + 35000);
        }
    }

    /** "a SET (or NONE: no change)", "The SET may be one told later": CHANGE if it has that SET and another one is on. */
    private static void setsOfStops() {
        for (int set = -2; set <= 4; set++) {
            RaceByLaps x = Due.plain(2, 2);
            Due.aCar(x, 0, 0);
            Due.is("11: set " + set, x.stop(0, 0, set, 0), set < -1 || set > 3 ? -1 : 1);
            if (set < -1 || set > 3) continue;
            Due.is("11: it has one alone", x.at(0, 1, 0), 75000);
            for (int has = 2; has <= 4; has++) {
                x.tyre(0, 1, 0);
                boolean changes = set > 0 && set < has;
                Due.is("11: set " + set + " of " + has, x.at(0, 1, 0), changes ? 78000 : 75000);
                Due.is("11: on", x.of(0, 7), changes ? set : 0);
            }
        }
    }

    /** "FUEL (0 .. 200) to be put in", "as much as told, but no more than TANK in all". */
    private static void fuelOfStops() {
        int[][] told = {{0, 0}, {1, 1}, {9, 9}, {199, 199}, {200, 200}};
        for (int[] t : told) {
            RaceByLaps x = Due.plain(2, 2);
            x.car(0, 200, 1, 0, 0, 2);
            x.tyre(0, 0, 0);
            Due.is("11: fuel below 0", x.stop(0, 0, -1, -1), -1);
            Due.is("11: fuel above 200", x.stop(0, 0, -1, 201), -1);
            Due.is("11: fuel " + t[0], x.stop(0, 0, -1, t[0]), 1);
            Due.is("11: put in", x.of(0, 6), Math.max(0, t[1] - 2));
            if (t[1] > 0) Due.is("11: 50 for each", x.at(0, 1, 0), 40000 + 15000 + 50 * t[1] + 20000);
        }
        for (int tank = 9; tank <= 11; tank++) {
            RaceByLaps x = Due.plain(2, 2);
            x.car(0, tank, 1, 0, 0, 5);
            x.tyre(0, 0, 0);
            x.stop(0, 0, -1, 7);
            int put = Math.min(7, tank - 3);
            Due.is("11: no more than the tank", x.at(0, 1, 0), 75000 + 50 * put);
            Due.is("11: in all", x.of(0, 6), 3 + put - 2);
        }
    }

    /** LANE, CHANGE and FILL at their least and at their most. */
    private static void stopsForNothing() {
        RaceByLaps x = Due.plain(2, 2);
        x.car(0, 200, 1, 0, 0, 2);
        x.tyre(0, 0, 0);
        x.tyre(0, 0, 0);
        x.stop(0, 0, 1, 200);
        for (int what = 3; what <= 5; what++) x.set(what, 0);
        Due.is("5: all for nothing", x.at(0, 1, 0), 60000);
        Due.is("16: but a stop", x.of(0, 3), 1);
        Due.is("16: and a set", x.of(0, 7), 1);
        x.set(3, 60000);
        Due.is("5: lane 60000", x.at(0, 1, 0), 120000);
        x.set(4, 20000);
        Due.is("5: change 20000", x.at(0, 1, 0), 140000);
        x.set(5, 200);
        Due.is("5: fill 200", x.at(0, 1, 0), 180000);
        int[] most = {60000, 20000, 200};
        for (int what = 3; what <= 5; what++) Due.is("5: 1 more", x.set(what, most[what - 3] + 1), -1);
        Due.is("5: as it was", x.at(0, 1, 0), 180000);
    }

    /** "of one LAP the one told last holds": it alone is made. */
    private static void stopsOfOneLap() {
        RaceByLaps x = Due.plain(2, 3);
        x.car(0, 200, 1, 0, 0, 100);
        for (int i = 0; i < 3; i++) x.tyre(0, 0, 0);
        x.stop(0, 0, 1, 10);
        x.stop(0, 1, 2, 5);
        x.stop(0, 0, -1, 3);
        Due.is("11: the third holds", x.at(0, 1, 0), 75150);
        Due.is("11: and the second", x.at(0, 2, 0), 95150 + 15000 + 3250 + 20000);
        Due.is("11: one for a lap", x.of(0, 3), 2);
        Due.is("11: fuel of these", x.of(0, 6), 100 - 6 + 3 + 5);
        Due.is("12: without the third", x.drop(0, 2), 2);
        Due.is("12: the first holds", x.at(0, 1, 0), 78500);
    }

    /** "STOPS of a CAR (at most 5)": the fifth holds, a sixth is refused; one gone makes room. */
    private static void fiveStops() {
        RaceByLaps x = Due.plain(2, 7);
        Due.aCar(x, 0, 0);
        x.car(0, 9, 1, 1, 0, 9);
        for (int lap = 0; lap < 5; lap++) Due.is("11: told", x.stop(0, lap, -1, 0), lap + 1);
        Due.is("11: all are made", x.of(0, 3), 5);
        Due.is("11: a sixth", x.stop(0, 5, -1, 0), -1);
        Due.is("11: is not", x.of(0, 3), 5);
        Due.is("11: the other car has none", x.stop(1, 5, -1, 0), 1);
        Due.is("12: one gone", x.drop(0, 4), 4);
        Due.is("11: makes room", x.stop(0, 5, -1, 0), 5);
        Due.is("11: all are made", x.of(0, 3), 5);
        Due.is("11: none behind the fifth lap", x.at(0, 5, 0) - x.at(0, 4, 1), 20000);
        Due.is("11: but behind the sixth", x.at(0, 6, 0) - x.at(0, 5, 1), 35000);
    }

    /** "A STOP of a CAR (0 .., as told) is gone": the first, one between, the last, the only one. */
    private static void drops() {
        for (int gone = -1; gone <= 5; gone++) {
            RaceByLaps x = Due.plain(2, 7);
            Due.aCar(x, 0, 0);
            for (int lap = 0; lap < 5; lap++) x.stop(0, lap, -1, 0);
            boolean right = gone >= 0 && gone < 5;
            Due.is("12: drop " + gone, x.drop(0, gone), right ? 4 : -1);
            Due.is("12: made", x.of(0, 3), right ? 4 : 5);
            for (int lap = 0; lap < 5; lap++) {
                Due.is("12: behind " + lap, x.at(0, lap + 1, 0) - x.at(0, lap, 1), lap == gone ? 20000 : 35000);
            }
        }
        RaceByLaps x = Due.plain(2, 2);
        Due.is("12: no car", x.drop(0, 0), -1);
        Due.aCar(x, 0, 0);
        Due.is("12: no stop", x.drop(0, 0), -1);
        x.stop(0, 0, -1, 0);
        Due.is("12: the only one", x.drop(0, 0), 0);
        Due.is("12: none such any more", x.drop(0, 0), -1);
        Due.is("11: the first again", x.stop(0, 0, -1, 0), 1);
    }

    /** "NONE for another what"; all of them full. */
    private static void counts() {
        RaceByLaps x = Due.plain(5, 12);
        for (int k = 0; k < 6; k++) {
            Due.aCar(x, 0, 0);
            for (int i = 0; i < 4; i++) x.option(k, 10, 0);
        }
        for (int i = 0; i < 30; i++) x.rain(4, 0, 0);
        for (int i = 0; i < 20; i++) x.flag(4, 0, 0, 0);
        for (int i = 0; i < 10; i++) Due.rule(x, "0:X", 99);
        for (int i = 0; i < 20; i++) x.finding(99, 5, 1, 0);
        for (int i = 0; i < 25; i++) x.sign(0);
        x.result(99);
        int[] most = {5, 12, 6, 30, 20, 10, 20, 6, 100, 24};
        for (int what = 0; what < 10; what++) Due.is("15: count " + what, x.count(what), most[what]);
        for (int what : new int[] {-1, 10, Integer.MIN_VALUE, Integer.MAX_VALUE}) Due.is("15: another what", x.count(what), -1);
    }
}

import java.util.ArrayList;
import java.util.List;

/** Terms 3 and promises 16 to 20: each sentence that names a boundary case. */
public final class RaceEdgesTest {
    public static void main(String[] args) {
        whole();
        theSixth();
        runAnew();
        whoGoesOn();
        burnsNothing();
        runsDry();
        slowIsCut();
        slowInFront();
        slowAtItsTime();
        slowStaysYoung();
        leastTime();
        heldAtGap();
        askedOneByOne();
        latestTime();
        easeOfLapped();
        yellowAtItsTime();
        offencesEach();
        heldByOneThatRests();
        lastLap();
        finishedAtTheSameTime();
        boxAtTheSameTime();
        boxOfThree();
        of();
        at();
        led();
        waited();
        leads();
        Due.close();
    }

    /** Five SECTORS, twelve LAPS, six CARS: the most that there can be. */
    private static void whole() {
        RaceByLaps x = Due.plain(5, 12);
        for (int k = 0; k < 6; k++) Due.aCar(x, 0, k % 4);
        for (int k = 0; k < 6; k++) {
            for (int lap = 0; lap < 12; lap++) {
                Due.is("17: at its end", x.at(k, lap, 4), 100000 * (lap + 1) + 500 * k);
                Due.is("18: led", x.led(lap, k), k);
            }
            Due.is("17: the last but one", x.at(k, 11, 3), 1180000 + 500 * k);
            Due.is("16: finished", x.of(k, 0), 1);
            Due.is("16: at", x.of(k, 1), 1200000 + 500 * k);
            Due.is("16: all 60", x.of(k, 2), 60);
            Due.is("16: fuel", x.of(k, 6), 140);
            Due.is("16: age", x.of(k, 8), 60);
            Due.is("26: place", x.place(k, 99), k);
        }
        Due.is("20: none", x.leads(), 0);
        Due.is("29: all six", x.result(0), 6);
        Due.is("41: the last", x.row(5), 5);
        Due.raises("41: none behind it", () -> x.row(6));
    }

    /** The last CAR in front of all others: it is asked and counted as they are. */
    private static void theSixth() {
        RaceByLaps x = Due.plain(2, 7);
        for (int k = 0; k < 5; k++) Due.aCar(x, 2000, k % 4);
        Due.aCar(x, -2000, 0);
        Due.is("3: it passes all", x.at(5, 0, 0), 19500);
        Due.is("18: the first", x.led(0, 0), 5);
        Due.is("18: the second", x.led(0, 1), 0);
        Due.is("18: the last", x.led(0, 5), 4);
        Due.is("3: it ends all laps", x.of(5, 1), 253500);
        Due.is("3: the others are finished with their sixth", x.of(0, 2), 12);
        Due.is("26: behind it", x.place(0, 0), 1);
        Due.plan(x, "p=2&a=65:.;:.", 0);
        Due.is("13: 44000, behind 37500", x.why(0, 0), 0);
        x.flag(-1, 22000, 22001, 1);
        Due.is("3: it has begun as many: not in front", x.at(0, 0, 1), 22000 + 24000);
        RaceByLaps y = Due.plain(2, 2);
        for (int k = 0; k < 6; k++) Due.aCar(y, k < 5 ? 1000 : 2000, k % 4);
        y.sector(0, 20000, -1);
        y.flag(-1, 1500, 1501, 0);
        Due.is("3: the fifth", y.at(4, 0, 0), 23000);
        Due.is("3: the sixth, asked by none", y.at(5, 0, 0), 23500);
    }

    /** What was in another race is not in the next: one that does not come so far holds up nobody there. */
    private static void runAnew() {
        RaceByLaps x = Due.plain(2, 1);
        x.car(2000, 9, 1, 0, 0, 1);
        x.tyre(0, 0, 0);
        Due.aCar(x, 0, 1);
        Due.aCar(x, 0, 2);
        Due.is("3: one that is slow, and then out", x.at(0, 0, 0), 22000);
        Due.is("3: passed by the second", x.at(1, 0, 0), 20300);
        Due.is("3: the third is held by that", x.at(2, 0, 0), 20800);
        Due.is("16: and passes none", x.of(2, 9), 0);
        x.order(0, 0, 0, -1);
        Due.is("3: it is out at once", x.at(0, 0, 0), -1);
        Due.is("3: the second", x.at(1, 0, 0), 20300);
        Due.is("16: passes none", x.of(1, 9), 0);
        Due.is("3: the third is held by it as before", x.at(2, 0, 0), 20800);
        Due.is("16: and passes none", x.of(2, 9), 0);
        x.car(0, 9, 1, 3, 0, 7);
        int[] due = {2, 0, 0, 0, 0, 0, 7, -1, -1, 0, 0};
        for (int what = 0; what < 11; what++) Due.is("16: one told behind a race, of " + what, x.of(3, what), due[what]);
        x.track(2, 1);
        x.car(0, 9, 1, 3, 0, 8);
        due[6] = 8;
        for (int what = 0; what < 11; what++) Due.is("16: one of another track, of " + what, x.of(0, what), due[what]);
        Due.is("20: no leads", x.leads(), 0);
    }

    /** "at the least TIME; of equal ones the one that has begun more SECTORS, then the less number". */
    private static void whoGoesOn() {
        int[] first = {14997, 15000, 15498};
        int[] last = {15497, 15500, 14998};
        for (int i = 0; i < 3; i++) {
            RaceByLaps x = Due.plain(2, 2);
            x.set(6, 2000);
            x.sector(0, 5000, -1);
            x.sector(1, 5000, -1);
            Due.aCar(x, i - 1, 0);
            for (int k = 1; k < 5; k++) x.car(0, 9, 1, 0, 0, 9);
            Due.aCar(x, -2, 0);
            Due.is("3: begins its third, where the last one begins its first at 10000", x.at(0, 0, 1), 10000 + 2 * (i - 1));
            Due.is("3: the one that has begun more " + i, x.at(0, 1, 0), first[i]);
            Due.is("3: the one that has begun fewer " + i, x.at(5, 0, 0), last[i]);
        }
        RaceByLaps y = Due.plain(2, 1);
        y.set(6, 0);
        for (int k = 0; k < 3; k++) Due.aCar(y, 0, 0);
        for (int i = 0; i < 2; i++) y.sector(i, 20000, -1);
        for (int k = 0; k < 3; k++) Due.is("3: then the less number", y.at(k, 0, 0), 20000 + 500 * k);
    }

    /** "one less in MODE 1": BURN 1 is nothing then, even with nothing left. */
    private static void burnsNothing() {
        RaceByLaps x = Due.plain(5, 12);
        x.car(0, 1, 1, 0, 0, 0);
        x.tyre(0, 0, 0);
        x.order(0, 0, 0, 1);
        Due.is("3: it goes on to the end", x.of(0, 0), 1);
        Due.is("3: all 60", x.of(0, 2), 60);
        Due.is("3: nothing left", x.of(0, 6), 0);
        x.order(0, 11, 0, 0);
        Due.is("3: in mode 0 it is out", x.of(0, 0), 2);
        Due.is("3: as it begins the last lap", x.of(0, 1), 55 * 20200);
        Due.is("3: 55", x.of(0, 2), 55);
    }

    /** "With less FUEL than that it is OUT there, at t": in each MODE just enough, and 1 less. */
    private static void runsDry() {
        for (int mode = -1; mode <= 1; mode++) {
            for (int fuel = 5 * (5 - mode) - 1; fuel <= 5 * (5 - mode); fuel++) {
                RaceByLaps x = Due.plain(5, 1);
                x.car(0, 200, 5, 0, 0, fuel);
                x.tyre(0, 0, 0);
                x.order(0, 0, 0, mode);
                boolean enough = fuel == 5 * (5 - mode);
                Due.is("3: mode " + mode + " fuel " + fuel, x.of(0, 0), enough ? 1 : 2);
                Due.is("3: it ended", x.of(0, 2), enough ? 5 : 4);
                Due.is("3: at", x.of(0, 1), (enough ? 5 : 4) * (20000 + 200 * mode));
                Due.is("3: fuel is not less", x.of(0, 6), enough ? 0 : 5 - mode - 1);
                Due.is("3: age", x.of(0, 8), (enough ? 5 : 4) * (mode == -1 ? 2 : 1));
            }
        }
        RaceByLaps x = Due.plain(2, 2);
        x.car(0, 9, 1, 0, 0, 2);
        x.tyre(0, 0, 0);
        x.stop(0, 0, -1, 0);
        Due.is("3: out as it comes from the box", x.of(0, 1), 55000);
        Due.is("16: a stop all the same", x.of(0, 3), 1);
        x.stop(0, 0, -1, 1);
        Due.is("3: 1 for one sector more", x.of(0, 1), 55050 + 20000);
    }

    /** "LENGTH times 150 by 100 .. else LENGTH times 120 by 100 (both cut)". */
    private static void slowIsCut() {
        int[] lengths = {5000, 5001, 5002, 5003, 5004, 5005, 59999, 60000};
        for (int length : lengths) {
            RaceByLaps x = Due.plain(2, 1);
            x.sector(0, length, 0);
            x.flag(-1, 0, 1000, 1);
            x.set(0, 100);
            Due.aCar(x, 2000, 0);
            Due.aCar(x, -2000, 1);
            x.order(1, 0, 1, 1);
            Due.is("3: in front", x.at(0, 0, 0), length * 3 / 2);
            Due.is("3: not in front", x.at(1, 0, 0), 300 + length * 6 / 5);
        }
    }

    /** "if all other CARS that are not OUT or FINISHED .. have begun fewer SECTORS than it". */
    private static void slowInFront() {
        RaceByLaps x = Due.plain(3, 1);
        Due.aCar(x, 100, 0);
        x.car(0, 9, 1, 1, 0, 9);
        Due.aCar(x, 2000, 1);
        x.flag(0, 20100, 20101, 1);
        Due.is("3: all others have begun fewer, or do not start", x.at(0, 0, 1), 20100 + 30000);
        RaceByLaps y = Due.plain(3, 1);
        Due.aCar(y, 0, 0);
        Due.aCar(y, 0, 1);
        y.flag(-1, 20000, 20501, 1);
        Due.is("3: in front", y.at(0, 0, 1), 50000);
        Due.is("3: begun as many: not in front, and no passing", y.at(1, 0, 1), 50500);
        y.order(1, 0, 1, 1);
        Due.is("3: 120", y.at(1, 0, 1), 44500);
        y.car(0, 9, 1, 0, 0, 0);
        y.tyre(2, 0, 0);
        Due.is("3: one that is out at once", y.of(2, 1), 600);
        Due.is("3: changes nothing", y.at(0, 0, 1), 50000);
        slowBehindOneThatFinishes();
    }

    /** "(by what went on so far)": the other one goes on to its end, 80000, at 60000. */
    private static void slowBehindOneThatFinishes() {
        int[] takes = {24000, 30000, 30000};
        for (int i = 0; i < 3; i++) {
            RaceByLaps x = Due.plain(2, 2);
            Due.aCar(x, 0, 0);
            Due.aCar(x, 0, 1);
            x.set(3, 19499 + i);
            x.stop(1, 0, -1, 0);
            int begins = 59999 + i;
            x.flag(-1, begins, begins + 1, 1);
            Due.is("3: begins its third at " + begins, x.at(1, 1, 0), begins + takes[i]);
        }
    }

    /** "SLOW at t": from its TIME on, and not at its end. */
    private static void slowAtItsTime() {
        int[][] spans = {{19999, 20000}, {20000, 20000}, {20000, 20001}, {20001, 20002}, {0, 1}, {0, 20001}};
        int[] due = {40000, 40000, 50000, 40000, 50000, 60000};
        for (int i = 0; i < spans.length; i++) {
            RaceByLaps x = Due.plain(2, 1);
            Due.aCar(x, 0, 0);
            x.flag(1, spans[i][0], spans[i][1], 1);
            Due.is("3: slow " + spans[i][0] + " to " + spans[i][1], x.at(0, 0, 1), i == 5 ? 50000 : due[i]);
        }
    }

    /** "AGE stays", though it BURNS; OFF, LOAD, FROM, WET and PUSH do not matter. */
    private static void slowStaysYoung() {
        for (int mode = -1; mode <= 1; mode++) {
            RaceByLaps x = new RaceByLaps();
            x.flag(-1, 0, 20000, 1);
            x.tyres(2, 0, 3000);
            x.rain(0, 0, 100);
            x.car(2000, 200, 5, 0, 0, 200);
            x.tyre(0, 2, 100);
            x.order(0, 0, 0, mode);
            Due.is("3: 150 by 100, no more", x.at(0, 0, 0), 30000);
            Due.is("3: one sector older", x.of(0, 8), mode == -1 ? 102 : 101);
            Due.is("3: but burnt for two", x.of(0, 6), 200 - 2 * (5 - mode));
        }
    }

    /** "1000 at least": the shortest that can be told is 2500, and it is not cut. */
    private static void leastTime() {
        RaceByLaps x = Due.plain(2, 1);
        x.set(2, 500);
        x.sector(0, 5000, 0);
        x.sector(1, 5000, 0);
        Due.aCar(x, -2000, 0);
        x.order(0, 0, 0, -1);
        Due.is("3: 2500", x.at(0, 0, 0), 2500);
        Due.is("3: twice", x.at(0, 0, 1), 5000);
    }

    /** "if e is at or behind its end and GAP, no more are asked": neither held nor passed. */
    private static void heldAtGap() {
        for (int off = 199; off <= 201; off++) {
            RaceByLaps x = Due.plain(2, 1);
            x.sector(1, 60000, 0);
            Due.aCar(x, 0, 0);
            Due.aCar(x, off, 1);
            Due.is("3: off " + off, x.at(1, 0, 0), off < 200 ? 20500 : 20300 + off);
            Due.is("16: held", x.of(1, 10), off < 200 ? 1 : 0);
            Due.is("16: passed none", x.of(1, 9), 0);
        }
    }

    /** "the latest begun first": who is held by the latest is held by no other; who passes it is held by the next. */
    private static void askedOneByOne() {
        RaceByLaps x = Due.plain(2, 1);
        x.sector(0, 20000, 1000);
        Due.aCar(x, 0, 0);
        Due.aCar(x, 2000, 1);
        Due.aCar(x, 0, 2);
        Due.is("3: the second", x.at(1, 0, 0), 22300);
        Due.is("3: 20600 is 1000 ahead of the second, and behind the first", x.at(2, 0, 0), 20600);
        Due.is("16: one passed", x.of(2, 9), 1);
        x.set(0, 601);
        Due.is("3: held by the first, which is asked then", x.at(2, 0, 0), 20601);
        Due.is("16: one passed, and held", x.of(2, 9), 1);
        x.sector(0, 20000, 1701);
        Due.is("3: not enough: held by the second", x.at(2, 0, 0), 22300 + 601);
        RaceByLaps y = Due.plain(2, 1);
        for (int k = 0; k < 5; k++) Due.aCar(y, 1000 + 200 * k, k % 4);
        Due.aCar(y, -2000, 0);
        for (int k = 0; k < 5; k++) Due.is("3: in line", y.at(k, 0, 0), 21000 + 500 * k);
        Due.is("3: the sixth passes all five", y.at(5, 0, 0), 19500);
        Due.is("16: five passed", y.of(5, 9), 5);
        y.flag(0, 1500, 1501, 0);
        Due.is("3: yellow: held by the latest", y.at(5, 0, 0), 23500);
        y.order(5, 0, 1, 1);
        Due.is("3: bold", y.at(5, 0, 0), 19500);
        Due.is("16: five offences", y.of(5, 5), 5);
    }

    /** "each other CAR its latest time": the end of the lap before does not count any more. */
    private static void latestTime() {
        RaceByLaps x = Due.plain(2, 3);
        Due.aCar(x, 0, 0);
        Due.aCar(x, 0, 1);
        for (int i = 0; i < 2; i++) x.sector(i, 20000, -1);
        for (int lap = 0; lap < 3; lap++) {
            for (int i = 0; i < 2; i++) Due.is("3: behind it each lap", x.at(1, lap, i), 20000 * (2 * lap + i + 1) + 500);
        }
        Due.is("16: held once, then just at gap", x.of(1, 10), 1);
        x.stop(0, 0, -1, 0);
        Due.is("3: the other one is in front then", x.at(1, 1, 0), 60500);
        Due.is("3: it is far behind", x.at(0, 1, 0), 75000);
        Due.is("16: never held", x.of(0, 10), 0);
    }

    /** "for one that has begun s SECTORS or more fewer than it: EASE 0, also where there is none". */
    private static void easeOfLapped() {
        for (int ease = -1; ease <= 5000; ease += 5001) {
            for (int late = 0; late <= 1; late++) {
                RaceByLaps x = Due.plain(2, 3);
                x.set(6, 0);
                x.sector(0, 5000, -1);
                x.sector(1, 5000, ease);
                x.tyres(1, 0, 3000);
                Due.aCar(x, 0, 0);
                x.car(2000, 200, 1, 1, 0, 200);
                x.tyre(1, 1, 0);
                x.order(0, 1, 0, 1);
                x.set(7, 1);
                x.set(2, late);
                Due.is("3: the slow one", x.at(1, 0, 1), 20000);
                Due.is("3: a lap ahead, at its end, or 1 behind it", x.at(0, 1, 1), late == 0 ? 20000 : 20500);
            }
        }
    }

    /** "no YELLOW there .. at t": from its TIME on, and not at its end; and not elsewhere. */
    private static void yellowAtItsTime() {
        int[][] flags = {{0, 300, 301}, {0, 0, 300}, {0, 301, 900}, {0, 300, 300}, {1, 300, 301}, {-1, 300, 301}, {0, 0, 301}};
        boolean[] yellow = {true, false, false, false, false, true, true};
        for (int i = 0; i < flags.length; i++) {
            RaceByLaps x = Due.plain(2, 1);
            Due.aCar(x, 0, 0);
            Due.aCar(x, -1000, 1);
            x.flag(flags[i][0], flags[i][1], flags[i][2], 0);
            Due.is("3: yellow " + i, x.at(1, 0, 0), yellow[i] ? 20500 : 19300);
            x.order(1, 0, 1, 1);
            Due.is("3: bold " + i, x.at(1, 0, 0), 19300);
            Due.is("3: an offence where it is yellow " + i, x.of(1, 5), yellow[i] ? 1 : 0);
        }
    }

    /** "(then, if there is YELLOW or SLOW, it is an OFFENCE)": one for each that it passes, though there be both. */
    private static void offencesEach() {
        RaceByLaps x = Due.plain(2, 1);
        x.sector(0, 10000, 0);
        Due.aCar(x, 2000, 0);
        Due.aCar(x, 2000, 1);
        Due.aCar(x, -2000, 2);
        x.order(2, 0, 1, 1);
        Due.is("3: it passes both", x.of(2, 9), 2);
        Due.is("3: no flag, no offence", x.of(2, 5), 0);
        x.flag(0, 600, 601, 0);
        Due.is("3: two offences", x.of(2, 5), 2);
        x.flag(-1, 600, 601, 0);
        Due.is("3: two yellows are no more", x.of(2, 5), 2);
        RaceByLaps y = Due.plain(2, 1);
        y.sector(0, 10000, 0);
        y.tyres(1, 0, 3000);
        y.car(2000, 9, 1, 0, 0, 9);
        y.tyre(0, 1, 0);
        Due.aCar(y, 0, 1);
        y.order(1, 0, 1, 1);
        y.flag(0, 300, 301, 1);
        Due.is("3: slow", y.at(1, 0, 0), 12300);
        Due.is("3: an offence", y.of(1, 5), 1);
        y.flag(-1, 300, 301, 0);
        Due.is("3: one, though it is yellow too", y.of(1, 5), 1);
        y.order(1, 0, 1, 0);
        Due.is("3: not bold", y.at(1, 0, 0), 15500);
        Due.is("3: no offence", y.of(1, 5), 0);
    }

    /** "CARS that are OUT or FINISHED go on no more, and hold up nobody later than their last end." */
    private static void heldByOneThatRests() {
        RaceByLaps x = Due.plain(2, 1);
        Due.aCar(x, 0, 0);
        Due.aCar(x, -300, 1);
        x.sector(0, 20000, -1);
        x.sector(1, 20000, -1);
        Due.is("3: the first is finished at 40000", x.of(0, 1), 40000);
        Due.is("3: it holds up the other one till then", x.at(1, 0, 1), 40500);
        RaceByLaps y = Due.plain(2, 2);
        y.car(0, 9, 1, 0, 0, 2);
        y.tyre(0, 0, 0);
        Due.aCar(y, 0, 1);
        for (int i = 0; i < 2; i++) y.sector(i, 20000, -1);
        Due.is("3: out at 40000", y.of(0, 1), 40000);
        Due.is("3: held till then", y.at(1, 0, 1), 40500);
        y.set(2, 500);
        y.order(1, 1, 0, -1);
        Due.is("3: no more", y.at(1, 1, 0), 60000);
        Due.is("16: held once", y.of(1, 10), 1);
    }

    /** "if it was the last one": with one LAP, and with twelve. */
    private static void lastLap() {
        for (int n = 1; n <= 12; n += 11) {
            RaceByLaps x = Due.plain(2, n);
            Due.aCar(x, 0, 0);
            Due.is("3: finished", x.of(0, 0), 1);
            Due.is("3: with the last lap", x.of(0, 2), 2 * n);
            Due.is("3: at", x.of(0, 1), 40000 * n);
        }
    }

    /** "another CAR has ended the last LAP at or ahead of e": 1 ahead of that, at it, and behind it. */
    private static void finishedAtTheSameTime() {
        int[] ends = {119999, 120000, 120500};
        for (int i = 0; i < 3; i++) {
            RaceByLaps x = Due.plain(2, 3);
            x.sector(1, 20000, 0);
            Due.aCar(x, 0, 0);
            Due.aCar(x, -1000, 1);
            x.stop(1, 0, -1, 0);
            x.set(3, 43699 + i);
            Due.is("3: the first", x.of(0, 1), 120000);
            Due.is("3: ends its second lap", x.at(1, 1, 1), ends[i]);
            Due.is("3: finished, or not " + i, x.of(1, 2), i == 0 ? 6 : 4);
            Due.is("3: state", x.of(1, 0), 1);
            if (i > 0) Due.is("3: at", x.of(1, 1), ends[i]);
        }
    }

    /** "it waits there until the BOX of its TEAM is free": not at all if that is when it comes. */
    private static void boxAtTheSameTime() {
        for (int fill = 49; fill <= 51; fill++) {
            RaceByLaps x = Due.plain(2, 2);
            x.set(5, fill);
            for (int k = 0; k < 2; k++) {
                x.car(0, 200, 1, 0, 0, 100);
                x.tyre(k, 0, 0);
                x.stop(k, 0, -1, 10);
            }
            int free = 55000 + 10 * fill;
            Due.is("3: the first", x.at(0, 1, 0), free + 20000);
            Due.is("19: free at " + free + ", comes at 55500", x.waited(1), Math.max(0, free - 55500));
            Due.is("3: the second", x.at(1, 1, 0), Math.max(55500, free) + 10 * fill + 20000);
        }
    }

    /** "(of those of its TEAM that went on ahead of it)": one that comes ahead of them waits for them all the same. */
    private static void boxOfThree() {
        RaceByLaps x = Due.plain(2, 2);
        x.set(6, 2000);
        x.set(0, 100);
        x.car(2000, 200, 1, 0, 0, 100);
        x.tyre(0, 0, 0);
        x.car(2000, 200, 1, 1, 0, 100);
        x.tyre(1, 0, 0);
        x.car(-2000, 200, 1, 0, 0, 100);
        x.tyre(2, 0, 0);
        for (int k = 0; k < 3; k++) x.stop(k, 0, -1, 100);
        Due.is("3: the first begins its second sector", x.at(0, 0, 0), 22000);
        Due.is("3: the third does so behind it", x.at(2, 0, 0), 22100);
        Due.is("3: but ends the lap", x.at(2, 0, 1), 40100);
        Due.is("3: ahead of it", x.at(0, 0, 1), 44000);
        Due.is("19: the first is at the box from 59000 to 64000", x.waited(0), 0);
        Due.is("19: the third is there at 55100", x.waited(2), 64000 - 55100);
        Due.is("19: another team's", x.waited(1), 0);
    }

    /** "NoSuchElementException: none such, another what". */
    private static void of() {
        RaceByLaps x = Due.plain(2, 1);
        for (int what = -1; what <= 11; what++) {
            int asked = what;
            Due.raises("16: no cars yet", () -> x.of(0, asked));
        }
        for (int k = 0; k < 6; k++) Due.aCar(x, 0, 0);
        int[] due = {1, 42500, 2, 0, 1, 0, 198, 0, 2};
        for (int what = 0; what < 9; what++) Due.is("16: of the last car " + what, x.of(5, what), due[what]);
        for (int car : new int[] {-1, 6, Integer.MIN_VALUE, Integer.MAX_VALUE}) {
            for (int what = -1; what <= 11; what++) {
                int asked = what;
                Due.raises("16: no such car", () -> x.of(car, asked));
            }
        }
        for (int what : new int[] {-1, 11, Integer.MIN_VALUE, Integer.MAX_VALUE}) Due.raises("16: another what", () -> x.of(0, what));
    }

    /** "NONE: it was not, none such". */
    private static void at() {
        RaceByLaps x = Due.plain(3, 2);
        Due.is("17: no cars", x.at(0, 0, 0), -1);
        x.car(0, 9, 1, 0, 0, 4);
        x.tyre(0, 0, 0);
        for (int q = 0; q < 6; q++) Due.is("17: four sectors", x.at(0, q / 3, q % 3), q < 4 ? 20000 * (q + 1) : -1);
        int[][] others = {{-1, 0, 0}, {1, 0, 0}, {0, -1, 3}, {0, -1, 0}, {0, 2, 0}, {0, 0, -1}, {0, 0, 3}, {0, 1, -1}, {0, Integer.MAX_VALUE, 0}, {0, 0, Integer.MIN_VALUE}};
        for (int[] o : others) Due.is("17: none such", x.at(o[0], o[1], o[2]), -1);
    }

    /** "(0: the first) at the end of a LAP, by TIME, then number; NONE: none such". */
    private static void led() {
        RaceByLaps x = Due.plain(2, 2);
        Due.is("18: no cars", x.led(0, 0), -1);
        int[] fuel = {9, 9, 0, 2, 9, 1};
        for (int k = 0; k < 6; k++) {
            x.car(0, 9, 1, 0, 0, fuel[k]);
            if (k != 1) x.tyre(k, 0, 0);
        }
        int[][] due = {{0, 3, 4}, {0, 4}};
        for (int lap = -1; lap <= 2; lap++) {
            for (int i = -1; i <= 6; i++) {
                boolean is = lap >= 0 && lap < 2 && i >= 0 && i < due[lap].length;
                Due.is("18: lap " + lap + " at " + i, x.led(lap, i), is ? due[lap][i] : -1);
            }
        }
    }

    /** "TIME that a CAR lost at BOXES": of all its STOPS together. */
    private static void waited() {
        RaceByLaps x = Due.plain(2, 4);
        Due.is("19: no cars", x.waited(0), -1);
        for (int k = 0; k < 6; k++) {
            x.car(0, 200, 1, 3, 0, 2);
            x.tyre(k, 0, 0);
            x.stop(k, 0, -1, 20);
        }
        for (int k = 0; k < 6; k++) Due.is("19: each 1000 at the box, 500 behind one another", x.waited(k), 500 * k);
        for (int k = 0; k < 6; k++) x.stop(k, 1, -1, 40);
        for (int k = 0; k < 6; k++) Due.is("19: 1000 behind one another, 2000 at the box then", x.waited(k), 500 * k + 1000 * k);
        for (int car : new int[] {-1, 6, Integer.MIN_VALUE, Integer.MAX_VALUE}) Due.is("19: none such", x.waited(car), -1);
    }

    /** "of how many LAPS (of those that some CAR ended, but the first)": none, and all of them. */
    private static void leads() {
        RaceByLaps x = Due.plain(2, 1);
        Due.is("20: no cars", x.leads(), 0);
        for (int k = 0; k < 2; k++) Due.aCar(x, -1500 * k, k);
        Due.is("20: the second leads the only lap", x.led(0, 0), 1);
        Due.is("20: the first does not count", x.leads(), 0);
        List<Integer> stops = new ArrayList<>();
        RaceByLaps y = Due.plain(2, 6);
        for (int k = 0; k < 2; k++) Due.aCar(y, 0, k);
        for (int i = 0; i < 5; i++) stops.add(y.stop(i % 2, i, -1, 0));
        for (int lap = 0; lap < 6; lap++) Due.is("20: they change each lap", y.led(lap, 0), lap % 2);
        Due.is("20: five changes", y.leads(), 5);
        Due.is("11: stops", stops.get(4), 3);
        leadsAtTheEnd();
        RaceByLaps z = Due.plain(2, 4);
        z.car(0, 9, 1, 0, 0, 4);
        z.tyre(0, 0, 0);
        z.car(0, 9, 1, 1, 0, 6);
        z.tyre(1, 0, 0);
        Due.is("20: the second leads the third lap, none the fourth", z.leads(), 1);
        z.track(2, 3);
        z.car(0, 9, 1, 0, 0, 1);
        z.tyre(0, 0, 0);
        Due.is("20: a lap that none ended", z.leads(), 0);
    }

    /** At the end of a LAP: who is first at a line within it does not count. */
    private static void leadsAtTheEnd() {
        RaceByLaps x = Due.plain(2, 3);
        x.sector(0, 20000, -1);
        x.sector(1, 20000, 300);
        Due.aCar(x, 0, 0);
        Due.aCar(x, -1500, 1);
        Due.is("18: the first line is the first one's", x.at(0, 0, 0) < x.at(1, 0, 0), true);
        Due.is("18: the lap is not", x.led(0, 0), 1);
        Due.is("20: the first lap does not count", x.leads(), 0);
        x.stop(1, 0, -1, 0);
        Due.is("20: back to the first one", x.leads(), 1);
        x.set(3, 1000);
        Due.is("18: the first one is first at the line between", x.at(0, 1, 0) < x.at(1, 1, 0), true);
        Due.is("18: but not of the lap", x.led(1, 0), 1);
        Due.is("20: no change", x.leads(), 0);
    }
}

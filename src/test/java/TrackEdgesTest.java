/** Terms 1 and promises 1 to 7: each sentence that names a boundary case. */
public final class TrackEdgesTest {
    private static final int MAX = Integer.MAX_VALUE;

    public static void main(String[] args) {
        newObject();
        tracks();
        sectorsAnew();
        easeAtFirst();
        nothingStays();
        lengths();
        eases();
        noEase();
        ease5000();
        tyresAtFirst();
        numbersAtFirst();
        cliffs();
        wearAndFrom();
        rainTimes();
        rainOfEqualTimes();
        rainOfASector();
        rain30();
        wet();
        flagTimes();
        flagOfASector();
        slowIsOverAll();
        flags20();
        gaps();
        grids();
        loads();
        Due.close();
    }

    /** "As told; no CARS": what each call answers where there is nothing yet. */
    private static void newObject() {
        RaceByLaps x = new RaceByLaps();
        int[] none = {x.tyre(0, 0, 0), x.order(0, 0, 0, 0), x.stop(0, 0, -1, 0), x.drop(0, 0), x.at(0, 0, 0), x.led(0, 0), x.waited(0),
            x.finding(0, 0, 0, 0), x.seconds(0, 0), x.place(0, 0), x.within(0, 0), x.move(0, 0, 0, 0), x.best(0, 0, 0), x.gain(0, 0, 0),
            x.option(0, -1, 0), x.settle(0, 1, 0), x.known(0, 0, 0, 0), x.ahead(0, 1, 0, 0), x.wall(0, 0), x.why(0, 0)};
        for (int i = 0; i < none.length; i++) Due.is("1: none, answer " + i, none[i], -1);
        int[] nothing = {x.leads(), x.result(0), x.clear(), x.unplan(0) ? 1 : 0, x.end(1) ? 1 : 0, x.lost(1, true) ? 1 : 0};
        for (int i = 0; i < nothing.length; i++) Due.is("1: nothing, answer " + i, nothing[i], 0);
        Due.raises("1: of no car", () -> x.of(0, 0));
        Due.raises("1: the sum of none", () -> x.sum(0, 0));
        Due.raises("1: no row", () -> x.row(0));
        Due.is("1: no text, no car", x.plan(0), -100);
        Due.is("1: no text", x.rule(0), -1);
        int[] counts = {2, 1, 0, 0, 0, 0, 0, 0, 0, 0};
        for (int what = 0; what < 10; what++) Due.is("1: count " + what, x.count(what), counts[what]);
        Due.is("1: two sectors", x.sector(1, 5000, 0), true);
        Due.is("1: no third", x.sector(2, 5000, 0), false);
        Due.is("1: rain in the second", x.rain(1, 0, 0), 1);
        Due.is("1: none in a third", x.rain(2, 0, 0), -1);
        Due.is("1: the first line may be lost", x.lost(0, true), true);
    }

    /** "s SECTORS (2 .. 5; at first 2) .. and n LAPS (1 .. 12; at first 1)". */
    private static void tracks() {
        RaceByLaps x = new RaceByLaps();
        Due.is("1: sectors at first", x.count(0), 2);
        Due.is("1: laps at first", x.count(1), 1);
        int sectors = 2, laps = 1;
        for (int s = 0; s <= 7; s++) {
            for (int n = -1; n <= 14; n++) {
                boolean right = s >= 2 && s <= 5 && n >= 1 && n <= 12;
                Due.is("2: track " + s + " " + n, x.track(s, n), right);
                sectors = right ? s : sectors;
                laps = right ? n : laps;
                Due.is("2: sectors", x.count(0), sectors);
                Due.is("2: laps", x.count(1), laps);
            }
        }
    }

    /** "s SECTORS, as at first": all five of them, whatever they were. */
    private static void sectorsAnew() {
        for (int s = 2; s <= 5; s++) {
            RaceByLaps x = Due.plain(5, 1);
            for (int i = 0; i < 5; i++) x.sector(i, 5000 + i, -1);
            for (int i = 0; i < 4; i++) x.lost(i, true);
            x.track(s, 1);
            Due.aCar(x, 0, 0);
            for (int i = 0; i < s; i++) {
                Due.is("2: length as at first", x.at(0, 0, i), 20000 * (i + 1));
                Due.is("2: none lost", x.known(0, 0, i, 1), 20000 * (i + 1));
            }
        }
    }

    /** "EASE .. (at first 300)": in each sector one that ends 300 ahead passes, one that ends 299 ahead does not. */
    private static void easeAtFirst() {
        for (int i = 0; i < 5; i++) {
            for (int off = -400; off <= -399; off++) {
                RaceByLaps x = Due.plain(5, 1);
                for (int other = 0; other < 5; other++) x.sector(other, 20000, -1);
                x.track(5, 1);
                for (int other = 0; other < 5; other++) if (other != i) x.sector(other, 20000, -1);
                x.set(0, 100);
                x.set(6, 100);
                Due.aCar(x, 0, 0);
                Due.aCar(x, off, 1);
                int end = 20000 * (i + 1);
                Due.is("3: sector " + i + " with " + off, x.at(1, 0, i), off == -400 ? end - 300 : end + 100);
            }
        }
    }

    /** "no RAIN, FLAGS, CARS, RULES, FINDINGS, OPTIONS": as many may be told as on a new object. */
    private static void nothingStays() {
        RaceByLaps x = new RaceByLaps();
        for (int time = 0; time < 2; time++) {
            for (int i = 1; i <= 30; i++) Due.is("6: rain anew", x.rain(0, 0, 9), i);
            for (int i = 1; i <= 20; i++) Due.is("7: flags anew", x.flag(-1, 0, 100, 0), i);
            for (int i = 0; i < 6; i++) Due.is("8: cars anew", x.car(0, 9, 1, 0, 0, 9), i);
            for (int i = 1; i <= 10; i++) Due.is("23: rules anew", Due.rule(x, "1:X", 0), i);
            for (int i = 1; i <= 20; i++) Due.is("24: findings anew", x.finding(0, 0, 0, 9), i);
            for (int i = 1; i <= 4; i++) Due.is("33: options anew", x.option(5, -1, 0), i);
            x.track(2, 1);
        }
        for (int what = 2; what <= 6; what++) Due.is("2: none, count " + what, x.count(what), 0);
        Due.is("2: no options", x.count(9), 0);
    }

    /** "LENGTH 5000 .. 60000". */
    private static void lengths() {
        for (int i = 0; i < 5; i++) {
            RaceByLaps x = Due.plain(5, 1);
            Due.aCar(x, 0, 0);
            Due.is("3: too short", x.sector(i, 4999, 300), false);
            Due.is("3: as it was", x.at(0, 0, 4), 100000);
            Due.is("3: the least", x.sector(i, 5000, 300), true);
            Due.is("3: 5000", x.at(0, 0, 4), 85000);
            Due.is("3: too long", x.sector(i, 60001, 300), false);
            Due.is("3: as it was", x.at(0, 0, 4), 85000);
            Due.is("3: the most", x.sector(i, 60000, 300), true);
            Due.is("3: 60000", x.at(0, 0, 4), 140000);
        }
        for (int s = 2; s <= 5; s++) {
            RaceByLaps x = Due.plain(s, 1);
            Due.is("3: the last sector", x.sector(s - 1, 5000, 0), true);
            Due.is("3: none behind it", x.sector(s, 5000, 0), false);
        }
    }

    /** When the second car, 300 behind on the grid, ends the first sector; the first one takes 20000 and its OFF. */
    private static int second(int ease, int first, int second) {
        RaceByLaps x = Due.plain(2, 1);
        Due.is("3: ease " + ease, x.sector(0, 20000, ease), true);
        Due.aCar(x, first, 0);
        Due.aCar(x, second, 1);
        return x.at(1, 0, 0);
    }

    /** "EASE: NONE, or 0 .. 5000": e and EASE at or ahead of its end. */
    private static void eases() {
        Due.is("3: ease 0, at its end", second(0, 0, -300), 20000);
        Due.is("3: ease 0, 1 behind it", second(0, 0, -299), 20500);
        Due.is("3: ease 1, 1 ahead of it", second(1, 0, -301), 19999);
        Due.is("3: ease 1, at its end", second(1, 0, -300), 20500);
        Due.is("3: ease 1000, 1000 ahead", second(1000, 0, -1300), 19000);
        Due.is("3: ease 1000, 999 ahead", second(1000, 0, -1299), 20500);
    }

    /** "the SECTOR has EASE": with NONE nobody passes, however fast. */
    private static void noEase() {
        Due.is("3: no ease, 3700 ahead", second(-1, 2000, -2000), 22500);
        Due.is("3: no ease, 1 ahead", second(-1, 0, -301), 20500);
        Due.is("3: no ease, but far enough behind", second(-1, 0, 200), 20500);
    }

    private static void ease5000() {
        for (int off = -300; off <= -299; off++) {
            RaceByLaps x = Due.plain(2, 1);
            x.sector(0, 60000, 5000);
            Due.is("3: too much", x.sector(0, 60000, 5001), false);
            Due.is("3: below NONE", x.sector(0, 60000, -2), false);
            x.tyres(1, 0, 3000);
            x.car(2000, 9, 1, 0, 0, 9);
            x.tyre(0, 1, 0);
            Due.aCar(x, off, 1);
            Due.is("3: the first", x.at(0, 0, 0), 65000);
            Due.is("3: 5000 ahead, or 4999", x.at(1, 0, 0), off == -300 ? 60000 : 65500);
        }
    }

    /** "at first 0, 10, 40, 1000, 0, 5 for all". */
    private static void tyresAtFirst() {
        for (int kind = 0; kind < 4; kind++) {
            RaceByLaps x = new RaceByLaps();
            x.set(1, 0);
            x.rain(0, 0, 7);
            x.car(0, 9, 1, 0, 0, 9);
            x.tyre(0, kind, 39);
            Due.is("1: from 0, wear 10, 39 is below 40, likes 0, miss 5", x.at(0, 0, 0), 20000 + 390 + 35);
            Due.is("1: cliff 40, fall 1000", x.at(0, 0, 1), 20425 + 20000 + 400 + 1000);
            int[] first = {0, 10, 40, 1000, 0, 5};
            for (int what = 0; what < 6; what++) Due.is("4: what it was", x.tyres(kind, what, 1), first[what]);
        }
    }

    /** "GAP (..; 500), LOAD (5), PUSH (200), LANE (15000), CHANGE (3000), FILL (50), GRID (300), LAG (0)". */
    private static void numbersAtFirst() {
        RaceByLaps x = new RaceByLaps();
        x.track(2, 2);
        for (int what = 1; what < 4; what += 2) x.tyres(0, what, 0);
        x.car(0, 200, 1, 0, 0, 10);
        x.tyre(0, 0, 0);
        x.tyre(0, 0, 0);
        Due.is("1: load 5", x.at(0, 0, 0), 20045);
        x.order(0, 0, 0, 1);
        Due.is("1: lag 0, push 200", x.at(0, 0, 0), 20000 + 50 + 200);
        x.order(0, 0, 0, 0);
        Due.is("1: two sectors", x.at(0, 0, 1), 40085);
        x.stop(0, 0, 1, 2);
        Due.is("1: lane 15000, change 3000, fill 50", x.at(0, 1, 0), 40085 + 15000 + 3000 + 100 + 20045);
        x.car(0, 200, 1, 1, 0, 10);
        x.tyre(1, 0, 0);
        Due.is("1: grid 300, gap 500", x.at(1, 0, 0), 20545);
        x.sector(0, 60000, 0);
        x.drop(0, 0);
        x.rain(0, 299, 100);
        Due.is("1: grid 300: it begins behind 299", x.at(1, 0, 0), 300 + 60000 + 45 + 500);
        Due.is("1: the first does not", x.at(0, 0, 0), 60045);
    }

    /** "with AGE of CLIFF or more": 0, 100 and 200, the most it can be. */
    private static void cliffs() {
        RaceByLaps x = Due.plain(2, 1);
        x.tyres(0, 3, 5000);
        x.car(0, 9, 1, 0, 0, 9);
        x.tyre(0, 0, 0);
        x.tyres(0, 2, 0);
        Due.is("4: cliff 0: a new set falls", x.at(0, 0, 0), 25000);
        x.tyres(0, 2, 1);
        Due.is("4: cliff 1: not yet", x.at(0, 0, 0), 20000);
        Due.is("4: cliff 1: then", x.at(0, 0, 1), 45000);
        RaceByLaps y = Due.plain(5, 12);
        y.tyres(0, 3, 5000);
        y.tyres(0, 2, 200);
        y.set(2, 0);
        y.car(0, 200, 1, 0, 0, 200);
        y.tyre(0, 0, 100);
        y.order(0, 0, 0, -1);
        Due.is("4: 198 behind 49 sectors", y.at(0, 9, 4), 1000000);
        Due.is("4: 200 behind 50", y.at(0, 10, 0), 1025000);
        Due.is("16: its age at the end", y.of(0, 8), 220);
        y.tyres(0, 2, 199);
        Due.is("4: 199 is skipped", y.at(0, 9, 4), 1000000);
        y.tyres(0, 2, 198);
        Due.is("4: 198", y.at(0, 9, 4), 1005000);
    }

    /** "FROM (0 .. 3000), WEAR (0 .. 100)". */
    private static void wearAndFrom() {
        RaceByLaps x = Due.plain(2, 1);
        x.car(0, 9, 1, 0, 0, 9);
        x.tyre(0, 3, 100);
        x.tyres(3, 0, 3000);
        Due.is("4: from 3000", x.at(0, 0, 0), 23000);
        x.tyres(3, 1, 100);
        Due.is("4: wear 100, age 100", x.at(0, 0, 0), 33000);
        Due.is("4: age 101", x.at(0, 0, 1), 66100);
        Due.is("4: wear is no more than 100", x.tyres(3, 1, 101), -1);
        Due.is("4: from is no more than 3000", x.tyres(3, 0, 3001), -1);
        Due.is("4: all stays", x.at(0, 0, 1), 66100);
    }

    /** "how WET a SECTOR is from a TIME on", "at first 0". */
    private static void rainTimes() {
        RaceByLaps x = Due.plain(2, 2);
        Due.aCar(x, 0, 0);
        x.rain(0, 40001, 10);
        Due.is("6: 1 too late", x.at(0, 1, 0), 60000);
        x.rain(0, 40000, 20);
        Due.is("6: from that time on", x.at(0, 1, 0), 60100);
        Due.is("6: at first 0", x.at(0, 0, 0), 20000);
        x.rain(0, 0, 30);
        Due.is("6: from time 0 on", x.at(0, 0, 0), 20150);
        Due.is("6: no time below 0", x.rain(0, -1, 40), -1);
        Due.is("6: the last time of all", x.rain(0, MAX, 50), 4);
        Due.is("6: none of it yet", x.at(0, 0, 0), 20150);
    }

    /** "that told for the greatest TIME not above, of equal ones the one told last". */
    private static void rainOfEqualTimes() {
        RaceByLaps x = Due.plain(2, 1);
        Due.aCar(x, 0, 0);
        x.rain(1, 20000, 10);
        x.rain(1, 19999, 99);
        Due.is("6: the greatest time, though told first", x.at(0, 0, 1), 40050);
        x.rain(1, 20000, 0);
        Due.is("6: told last, dry again", x.at(0, 0, 1), 40000);
        x.rain(1, 20000, 100);
        x.rain(1, 20000, 1);
        Due.is("6: told last", x.at(0, 0, 1), 40005);
        x.rain(1, 20001, 60);
        Due.is("6: not above", x.at(0, 0, 1), 40005);
        RaceByLaps y = Due.plain(2, 1);
        Due.aCar(y, 0, 0);
        y.rain(0, 0, 5);
        y.rain(0, 0, 6);
        Due.is("6: of two for time 0 the one told last", y.at(0, 0, 0), 20030);
    }

    private static void rainOfASector() {
        for (int i = 0; i < 5; i++) {
            RaceByLaps x = Due.plain(5, 1);
            Due.aCar(x, 0, 0);
            Due.is("6: each sector", x.rain(i, 0, 100), 1);
            for (int at = 0; at < 5; at++) Due.is("6: that one alone", x.at(0, 0, at), 20000 * (at + 1) + (at < i ? 0 : 500));
            Due.is("6: none behind the last", x.rain(5, 0, 100), -1);
        }
    }

    /** "(at most 30 are told)": the 30th holds, the 31st does not. */
    private static void rain30() {
        RaceByLaps x = Due.plain(2, 1);
        Due.aCar(x, 0, 0);
        for (int i = 1; i <= 29; i++) Due.is("6: told", x.rain(0, 0, i), i);
        Due.is("6: the 29th holds", x.at(0, 0, 0), 20000 + 29 * 5);
        Due.is("6: the 30th is told", x.rain(0, 0, 70), 30);
        Due.is("6: and holds", x.at(0, 0, 0), 20350);
        Due.is("6: the 31st is not", x.rain(0, 0, 90), -1);
        Due.is("6: nor does it hold", x.at(0, 0, 0), 20350);
        Due.is("6: 30", x.count(3), 30);
    }

    /** "how WET (0 .. 100)", "MISS times the size of WET less LIKES". */
    private static void wet() {
        RaceByLaps x = Due.plain(2, 1);
        Due.aCar(x, 0, 0);
        x.tyres(0, 4, 100);
        x.tyres(0, 5, 100);
        Due.is("4: dry, and likes 100", x.at(0, 0, 0), 30000);
        Due.is("6: the wettest", x.rain(0, 0, 100), 1);
        Due.is("4: as it likes", x.at(0, 0, 0), 20000);
        Due.is("6: wetter than wet", x.rain(0, 0, 101), -1);
        Due.is("6: drier than dry", x.rain(0, 0, -1), -1);
        Due.is("6: nothing told", x.at(0, 0, 0), 20000);
        x.rain(0, 0, 99);
        Due.is("4: 1 less", x.at(0, 0, 0), 20100);
        x.tyres(0, 4, 98);
        Due.is("4: 1 more", x.at(0, 0, 0), 20100);
        x.rain(0, 0, 0);
        Due.is("6: the driest", x.at(0, 0, 0), 29800);
    }

    /** "from a TIME on to another one (that one not)". */
    private static void flagTimes() {
        for (int from = 299; from <= 301; from++) {
            for (int to = from; to <= from + 2; to++) {
                RaceByLaps x = Due.plain(2, 1);
                Due.aCar(x, 0, 0);
                Due.aCar(x, -1000, 1);
                Due.is("7: told", x.flag(0, from, to, 0), 1);
                boolean yellow = from <= 300 && 300 < to;
                Due.is("7: yellow " + from + " to " + to, x.at(1, 0, 0), yellow ? 20500 : 19300);
            }
        }
        RaceByLaps x = Due.plain(2, 1);
        Due.aCar(x, 0, 0);
        Due.is("7: times from 0", x.flag(0, 0, 0, 1), 1);
        Due.is("7: none of it", x.at(0, 0, 0), 20000);
        Due.is("7: to the last time of all", x.flag(0, 20000, MAX, 1), 2);
        Due.is("7: slow", x.at(0, 0, 1), 50000);
        Due.is("7: to below from", x.flag(0, 1, 0, 1), -1);
        Due.is("7: from below 0", x.flag(0, -1, 9, 1), -1);
        Due.is("7: two were told", x.count(4), 2);
    }

    /** "over a SECTOR (or all: NONE)". */
    private static void flagOfASector() {
        int[][] due = {{20100, 40100, 60100}, {20100, 40000, 59900}, {20000, 40100, 60000}, {20000, 39900, 59800}};
        for (int over = -1; over < 3; over++) {
            RaceByLaps x = Due.plain(3, 1);
            x.set(0, 100);
            x.set(6, 100);
            for (int i = 0; i < 3; i++) x.sector(i, 20000, 0);
            Due.aCar(x, 0, 0);
            Due.aCar(x, -100, 1);
            Due.is("7: told", x.flag(over, 0, MAX, 0), 1);
            for (int i = 0; i < 3; i++) Due.is("7: over " + over + " at " + i, x.at(1, 0, i), due[over + 1][i]);
        }
    }

    /** "SLOW (1: it is over all SECTORS, whatever is told)". */
    private static void slowIsOverAll() {
        for (int over = -1; over < 3; over++) {
            RaceByLaps x = Due.plain(3, 1);
            Due.aCar(x, 0, 0);
            x.flag(over, 0, MAX, 1);
            for (int i = 0; i < 3; i++) Due.is("7: slow over " + over, x.at(0, 0, i), 30000 * (i + 1));
        }
        RaceByLaps x = Due.plain(2, 1);
        Due.is("7: no such sector", x.flag(2, 0, 9, 1), -1);
        Due.is("7: below NONE", x.flag(-2, 0, 9, 1), -1);
        Due.is("7: below yellow", x.flag(0, 0, 9, -1), -1);
        Due.is("7: above slow", x.flag(0, 0, 9, 2), -1);
        Due.is("7: none was told", x.count(4), 0);
    }

    /** "FLAGS (at most 20)": the 20th holds, the 21st does not. */
    private static void flags20() {
        RaceByLaps x = Due.plain(2, 1);
        Due.aCar(x, 0, 0);
        for (int i = 1; i <= 19; i++) Due.is("7: told", x.flag(-1, i, i, 1), i);
        Due.is("7: none of it", x.at(0, 0, 0), 20000);
        Due.is("7: the 20th is told", x.flag(-1, 0, 1, 1), 20);
        Due.is("7: and holds", x.at(0, 0, 0), 30000);
        Due.is("7: the 21st is not", x.flag(-1, 30000, 30001, 1), -1);
        Due.is("7: nor does it hold", x.at(0, 0, 1), 50000);
    }

    /** "GAP (100 .. 2000)". */
    private static void gaps() {
        RaceByLaps x = Due.plain(2, 1);
        Due.aCar(x, 0, 0);
        Due.aCar(x, 0, 1);
        Due.is("5: too near", x.set(0, 99), -1);
        Due.is("5: 500", x.at(1, 0, 0), 20500);
        Due.is("5: the least", x.set(0, 100), 500);
        x.set(6, 0);
        Due.is("5: 100", x.at(1, 0, 0), 20100);
        Due.is("5: the most", x.set(0, 2000), 100);
        Due.is("5: 2000", x.at(1, 0, 0), 22000);
        Due.is("5: too far", x.set(0, 2001), -1);
        Due.is("5: 2000", x.at(1, 0, 0), 22000);
    }

    /** "GRID (0 .. 2000)". */
    private static void grids() {
        RaceByLaps x = Due.plain(2, 1);
        for (int k = 0; k < 6; k++) Due.aCar(x, 0, 0);
        Due.is("5: the most", x.set(6, 2000), 300);
        for (int k = 0; k < 6; k++) Due.is("5: 2000", x.at(k, 0, 0), 20000 + 2000 * k);
        Due.is("5: too far", x.set(6, 2001), -1);
        Due.is("5: below", x.set(6, -1), -1);
        Due.is("5: the least", x.set(6, 0), 2000);
        Due.is("5: all at once, the first", x.at(0, 0, 0), 20000);
        for (int k = 1; k < 6; k++) Due.is("5: the others pass one another, and are held by it", x.at(k, 0, 0), 20500);
    }

    /** "LOAD (0 .. 50)" times FUEL "as it is then": from 200 down to nothing. */
    private static void loads() {
        RaceByLaps x = Due.plain(2, 1);
        x.car(0, 200, 9, 0, 0, 200);
        x.tyre(0, 0, 0);
        x.car(0, 200, 9, 1, 0, 18);
        x.tyre(1, 0, 0);
        Due.is("5: load 0", x.at(0, 0, 1), 40000);
        Due.is("5: the most", x.set(1, 50), 0);
        Due.is("5: 191 times 50", x.at(0, 0, 0), 20000 + 9550);
        Due.is("5: 182 times 50", x.at(0, 0, 1), 29550 + 20000 + 9100);
        Due.is("5: 9 times 50, and passes", x.at(1, 0, 0), 300 + 20450);
        Due.is("5: nothing left", x.at(1, 0, 1), 20750 + 20000);
        Due.is("5: too much", x.set(1, 51), -1);
        Due.is("5: too little", x.set(1, -1), -1);
        Due.is("5: as it was", x.at(0, 0, 0), 29550);
    }
}

/** Terms 4 (but for texts) and promises 23 to 29: each sentence that names a boundary case. */
public final class BookEdgesTest {
    private static final int[] NO_DAYS = {-1, 100, Integer.MIN_VALUE, Integer.MAX_VALUE};

    public static void main(String[] args) {
        days();
        tenRules();
        refusedRules();
        weights();
        weightOfTheLatest();
        times();
        timesTogether();
        findingsOfACar();
        twentyFindings();
        seconds();
        placeByLaps();
        placeBySum();
        placeOfNone();
        sum();
        sumBelowZero();
        within();
        result();
        emptyResult();
        noSuch();
        Due.close();
    }

    /** "each from a DAY (0 .. 99) on". */
    private static void days() {
        RaceByLaps x = Due.plain(2, 1);
        Due.aCar(x, 0, 0);
        Due.is("23: of day 0", Due.rule(x, "1:+1", 0), 1);
        Due.is("23: of day 99", Due.rule(x, "1:+2", 99), 2);
        Due.is("23: of day 50", Due.rule(x, "1:+4", 50), 3);
        int[] asked = {0, 1, 49, 50, 51, 98, 99};
        int[] due = {1, 1, 1, 5, 5, 5, 7};
        for (int i = 0; i < asked.length; i++) Due.is("25: day " + asked[i], x.seconds(0, asked[i]), due[i]);
        for (int day : NO_DAYS) Due.is("25: no such day", x.seconds(0, day), -1);
    }

    /** "RULES (at most 10)": the tenth holds, an eleventh does not. */
    private static void tenRules() {
        RaceByLaps x = Due.plain(2, 1);
        Due.aCar(x, 0, 0);
        for (int i = 1; i <= 9; i++) Due.is("23: told", Due.rule(x, "1:+1", 0), i);
        Due.is("25: nine", x.seconds(0, 0), 9);
        Due.is("23: the tenth", Due.rule(x, "1:+90", 0), 10);
        Due.is("25: holds", x.seconds(0, 0), 99);
        for (String text : new String[] {"1:X", "", "?", "1:"}) {
            Due.is("23: an eleventh", Due.rule(x, text, 0), -100);
            Due.is("23: the tape is empty", x.count(8), 0);
            Due.is("25: does not hold", x.seconds(0, 0), 99);
        }
        Due.is("23: 10", x.count(5), 10);
    }

    /** "-100: no such DAY, 10 (asked first; THE TAPE is empty then, too)". */
    private static void refusedRules() {
        RaceByLaps x = Due.plain(2, 1);
        Due.aCar(x, 0, 0);
        for (int day : NO_DAYS) {
            for (String text : new String[] {"1:X", "", "?", "1+".repeat(50)}) {
                Due.is("23: no such day", Due.rule(x, text, day), -100);
                Due.is("23: the tape is empty", x.count(8), 0);
            }
        }
        for (String text : new String[] {"", "?", "1:", "1:XX"}) {
            Due.is("23: wrong", Due.rule(x, text, 0) < 0, true);
            Due.is("23: the tape is empty", x.count(8), 0);
        }
        Due.is("23: none was told", x.count(5), 0);
        Due.is("25: none holds", x.seconds(0, 99), 0);
        Due.is("23: the first", Due.rule(x, "1:+3", 0), 1);
    }

    /** "a WEIGHT (0 .. 999; .. at first 0)". */
    private static void weights() {
        RaceByLaps x = Due.plain(2, 1);
        Due.aCar(x, 0, 0);
        Due.rule(x, "w=0:+1", 0);
        Due.rule(x, "w=999:+2", 0);
        Due.is("24: at first 0", x.seconds(0, 99), 1);
        Due.is("24: below", x.finding(0, 0, 0, -1), -1);
        Due.is("24: above", x.finding(0, 0, 0, 1000), -1);
        Due.is("24: still 0", x.seconds(0, 99), 1);
        Due.is("24: the most", x.finding(1, 0, 0, 999), 1);
        Due.is("24: from its day on", x.seconds(0, 1), 2);
        Due.is("24: not before", x.seconds(0, 0), 1);
        Due.is("24: the least", x.finding(1, 0, 0, 0), 2);
        Due.is("24: holds", x.seconds(0, 1), 1);
    }

    /** "the latest of the greatest DAY holds", of those not above. */
    private static void weightOfTheLatest() {
        RaceByLaps x = Due.plain(2, 1);
        Due.aCar(x, 0, 0);
        for (int w = 1; w <= 6; w++) Due.rule(x, "w=" + w + ":+" + w, 0);
        int[][] told = {{50, 1}, {99, 2}, {0, 3}, {50, 4}, {49, 5}, {0, 6}};
        for (int i = 0; i < 6; i++) Due.is("24: told", x.finding(told[i][0], 0, 0, told[i][1]), i + 1);
        int[][] due = {{0, 6}, {1, 6}, {48, 6}, {49, 5}, {50, 4}, {51, 4}, {98, 4}, {99, 2}};
        for (int[] d : due) Due.is("24: on day " + d[0], x.seconds(0, d[0]), d[1]);
    }

    /** "a TIME more or less (-60000 .. 60000; ..)". */
    private static void times() {
        RaceByLaps x = Due.plain(2, 1);
        Due.aCar(x, 0, 0);
        Due.is("24: too much less", x.finding(0, 0, 1, -60001), -1);
        Due.is("24: too much more", x.finding(0, 0, 1, 60001), -1);
        Due.is("27: none", x.sum(0, 99), 40000);
        Due.is("24: the most", x.finding(0, 0, 1, 60000), 1);
        Due.is("27: more", x.sum(0, 0), 100000);
        Due.is("24: nothing", x.finding(0, 0, 1, 0), 2);
        Due.is("27: as much", x.sum(0, 0), 100000);
        Due.is("24: the least", x.finding(0, 0, 1, -60000), 3);
        Due.is("27: less", x.sum(0, 0), 40000);
    }

    /** "all together", of DAYS not above it. */
    private static void timesTogether() {
        RaceByLaps x = Due.plain(2, 1);
        Due.aCar(x, 0, 0);
        int[] days = {99, 0, 50, 50, 1};
        int[] times = {1, 20, 300, 4000, -50000};
        for (int i = 0; i < 5; i++) x.finding(days[i], 0, 1, times[i]);
        int[][] due = {{0, 40020}, {1, -9980}, {49, -9980}, {50, -5680}, {98, -5680}, {99, -5679}};
        for (int[] d : due) Due.is("27: day " + d[0], x.sum(0, d[0]), d[1]);
        Due.is("25: no seconds", x.seconds(0, 99), 0);
    }

    /** Of one CAR, what 0 and 1 apart. */
    private static void findingsOfACar() {
        RaceByLaps x = Due.plain(2, 1);
        for (int k = 0; k < 6; k++) Due.aCar(x, 0, 0);
        Due.rule(x, "w:+1", 0);
        x.finding(0, 5, 0, 700);
        x.finding(0, 2, 1, 700);
        for (int k = 0; k < 6; k++) {
            Due.is("24: weight", x.seconds(k, 0), k == 5 ? 1 : 0);
            Due.is("24: time", x.sum(k, 0), 40000 + 500 * k + (k == 5 ? 1000 : k == 2 ? 700 : 0));
        }
        for (int car : new int[] {-1, 6}) Due.is("24: no such car", x.finding(0, car, 0, 0), -1);
        for (int what : new int[] {-1, 2}) Due.is("24: no such what", x.finding(0, 0, what, 0), -1);
        for (int day : NO_DAYS) Due.is("24: no such day", x.finding(day, 0, 0, 0), -1);
        Due.is("24: two", x.count(6), 2);
    }

    /** "FINDINGS (at most 20)": the twentieth holds, one more does not. */
    private static void twentyFindings() {
        RaceByLaps x = Due.plain(2, 1);
        for (int k = 0; k < 2; k++) Due.aCar(x, 0, 0);
        for (int i = 1; i <= 19; i++) Due.is("24: told", x.finding(0, i % 2, 1, 1), i);
        Due.is("24: nine", x.sum(0, 0), 40009);
        Due.is("24: ten", x.sum(1, 0), 40510);
        Due.is("24: the twentieth", x.finding(0, 1, 1, 1000), 20);
        Due.is("24: holds", x.sum(1, 0), 41510);
        Due.is("24: one more", x.finding(0, 0, 1, 1), -1);
        Due.is("24: nor a weight", x.finding(0, 0, 0, 1), -1);
        Due.is("24: does not", x.sum(0, 0), 40009);
        Due.is("24: 20", x.count(6), 20);
    }

    /** "-2: one says X", wherever it stands; of one that is OUT too. */
    private static void seconds() {
        for (int at = 0; at < 3; at++) {
            RaceByLaps x = Due.plain(2, 1);
            Due.aCar(x, 0, 0);
            x.car(0, 9, 1, 0, 0, 9);
            for (int i = 0; i < 3; i++) Due.rule(x, i == at ? "1:X" : "1:+9", i == at ? 1 : 0);
            Due.is("25: not yet", x.seconds(0, 0), 18);
            Due.is("25: X", x.seconds(0, 1), -2);
            Due.is("25: of one that is out", x.seconds(1, 0), 18);
            Due.is("25: of one that is out", x.seconds(1, 1), -2);
            Due.is("26: no place", x.place(0, 1), -1);
            Due.is("26: a place", x.place(0, 0), 0);
        }
    }

    /** "by LAPS ended, the most first". */
    private static void placeByLaps() {
        RaceByLaps x = Due.plain(2, 3);
        for (int k = 0; k < 3; k++) Due.aCar(x, 0, k);
        x.set(3, 60000);
        x.stop(0, 0, -1, 0);
        for (int i = 0; i < 2; i++) x.finding(0, 0, 1, -60000);
        Due.is("26: a lap fewer", x.of(0, 2), 4);
        Due.is("27: the least sum", x.sum(0, 0), 140000 - 120000);
        Due.is("26: behind all the same", x.place(0, 0), 2);
        for (int i = 0; i < 7; i++) x.finding(0, 1, 1, 60000);
        Due.is("27: the greatest sum", x.sum(1, 0), 120500 + 420000);
        Due.is("26: ahead of it all the same", x.place(1, 0), 1);
    }

    /** "then the least SUM", "then the less number": 1 less, equal, 1 more. */
    private static void placeBySum() {
        for (int more = -1; more <= 1; more++) {
            RaceByLaps x = Due.plain(2, 1);
            for (int k = 0; k < 2; k++) Due.aCar(x, 0, 0);
            x.finding(3, 1, 1, -500 + more);
            Due.is("27: sum", x.sum(1, 3), 40000 + more);
            Due.is("26: the second", x.place(1, 3), more < 0 ? 0 : 1);
            Due.is("26: the first", x.place(0, 3), more < 0 ? 1 : 0);
            Due.is("26: by an earlier day", x.place(1, 2), 1);
            Due.is("28: in its class", x.within(1, 3), more < 0 ? 0 : 1);
            x.result(3);
            Due.is("29: the first of the row", x.row(0), more < 0 ? 1 : 0);
        }
    }

    /** "of CARS that are not OUT and to which no RULE says X": the others move up. */
    private static void placeOfNone() {
        RaceByLaps x = Due.plain(2, 1);
        for (int k = 0; k < 6; k++) x.car(0, 9, 1, k % 4, 0, k == 0 ? 1 : 9);
        for (int k = 0; k < 5; k++) x.tyre(k, 0, 0);
        Due.rule(x, "t=3:X", 1);
        int[] day0 = {-1, 0, 1, 2, 3, -1};
        int[] day1 = {-1, 0, 1, -1, 2, -1};
        for (int k = 0; k < 6; k++) {
            Due.is("26: day 0", x.place(k, 0), day0[k]);
            Due.is("26: day 1", x.place(k, 1), day1[k]);
        }
    }

    /** "NoSuchElementException: it has no PLACE, none such". */
    private static void sum() {
        RaceByLaps x = Due.plain(2, 1);
        Due.raises("27: no cars", () -> x.sum(0, 0));
        Due.aCar(x, 0, 0);
        x.car(0, 9, 1, 0, 0, 9);
        Due.rule(x, "1:X", 99);
        Due.is("27: it has", x.sum(0, 98), 40000);
        Due.raises("27: X", () -> x.sum(0, 99));
        Due.raises("27: out", () -> x.sum(1, 0));
        for (int day : NO_DAYS) Due.raises("27: no such day", () -> x.sum(0, day));
        for (int car : new int[] {-1, 2, Integer.MIN_VALUE, Integer.MAX_VALUE}) Due.raises("27: no such car", () -> x.sum(car, 0));
    }

    /** A SUM below 0, or of -1, is one like any other. */
    private static void sumBelowZero() {
        RaceByLaps x = Due.plain(2, 1);
        for (int k = 0; k < 3; k++) Due.aCar(x, 0, 0);
        x.finding(0, 2, 1, -41001);
        Due.is("27: -1", x.sum(2, 0), -1);
        Due.is("26: the first", x.place(2, 0), 0);
        x.finding(0, 1, 1, -40502);
        Due.is("27: -2", x.sum(1, 0), -2);
        Due.is("26: the first", x.place(1, 0), 0);
        for (int i = 0; i < 18; i++) x.finding(0, 0, 1, -60000);
        Due.is("27: the least of all", x.sum(0, 0), 40000 - 18 * 60000);
        Due.is("26: the first", x.place(0, 0), 0);
    }

    /** "PLACE of a CAR among those of its CLASS. NONE likewise." */
    private static void within() {
        RaceByLaps x = Due.plain(2, 1);
        int[] classes = {1, 0, 0, 1, 1, 0};
        for (int k = 0; k < 6; k++) {
            x.car(0, 9, 1, k % 4, classes[k], 9);
            if (k != 1) x.tyre(k, 0, 0);
        }
        Due.rule(x, "t=0:X", 1);
        int[] day0 = {0, -1, 0, 1, 2, 1};
        int[] day1 = {-1, -1, 0, 0, -1, 1};
        for (int k = 0; k < 6; k++) {
            Due.is("28: day 0", x.within(k, 0), day0[k]);
            Due.is("28: day 1", x.within(k, 1), day1[k]);
        }
    }

    /** "The ROW: CARS with a PLACE, in order": how many, from six down to none, of both CLASSES. */
    private static void result() {
        RaceByLaps x = Due.plain(2, 1);
        for (int k = 0; k < 6; k++) {
            x.car(0, 9, 1, 0, k % 2, 9);
            x.tyre(k, 0, 0);
            x.finding(k, k, 0, 1);
            x.finding(50, k, 1, -1000 * k);
        }
        Due.rule(x, "w:X", 0);
        for (int day = 0; day < 7; day++) {
            int many = Math.max(0, 5 - day);
            Due.is("29: day " + day, x.result(day), many);
            Due.is("15: numbers of the row", x.count(7), many);
            for (int i = 0; i < many; i++) Due.is("29: in order", x.row(i), day + 1 + i);
            int behind = many;
            Due.raises("41: none behind", () -> x.row(behind));
        }
        RaceByLaps y = Due.plain(2, 1);
        for (int k = 0; k < 6; k++) Due.aCar(y, 0, 0);
        for (int k = 0; k < 6; k++) y.finding(9, k, 1, -1000 * k);
        Due.is("29: six", y.result(9), 6);
        for (int i = 0; i < 6; i++) Due.is("29: the other way round", y.row(i), 5 - i);
        for (int day : NO_DAYS) Due.is("29: no such day", y.result(day), -1);
        Due.is("29: the row stays", y.row(5), 0);
        Due.is("29: and is as long", y.count(7), 6);
    }

    /** No CARS, or none with a PLACE: a ROW all the same. */
    private static void emptyResult() {
        RaceByLaps x = Due.plain(2, 1);
        Due.is("29: no cars", x.result(0), 0);
        Due.is("41: no row", x.count(7), 0);
        Due.aCar(x, 0, 0);
        Due.is("29: one", x.result(0), 1);
        x.track(2, 1);
        Due.is("2: a track leaves the row", x.count(7), 1);
        Due.is("29: no cars", x.result(99), 0);
        Due.is("41: an empty row", x.count(7), 0);
        Due.raises("41: none", () -> x.row(0));
    }

    private static void noSuch() {
        RaceByLaps x = Due.plain(2, 1);
        for (int k = 0; k < 6; k++) Due.aCar(x, 0, 0);
        for (int car : new int[] {-1, 6, Integer.MIN_VALUE, Integer.MAX_VALUE}) {
            Due.is("25: no such car", x.seconds(car, 0), -1);
            Due.is("26: no such car", x.place(car, 0), -1);
            Due.is("28: no such car", x.within(car, 0), -1);
        }
        for (int day : NO_DAYS) {
            Due.is("25: no such day", x.seconds(0, day), -1);
            Due.is("26: no such day", x.place(0, day), -1);
            Due.is("28: no such day", x.within(0, day), -1);
        }
        for (int day = 0; day < 100; day += 99) {
            Due.is("25: the last car", x.seconds(5, day), 0);
            Due.is("26: the last car", x.place(5, day), 5);
            Due.is("28: the last car", x.within(5, day), 5);
        }
    }
}

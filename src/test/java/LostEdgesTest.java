/** LOST in Terms 5 and promises 36 to 39 and 41: each sentence that names a boundary case. */
public final class LostEdgesTest {
    private static final int MAX = Integer.MAX_VALUE;
    private static final int MIN = Integer.MIN_VALUE;

    public static void main(String[] args) {
        lostSectors();
        spans();
        fromTheStart();
        acrossLaps();
        noLineBehind();
        knownOfNone();
        ahead();
        aheadByOne();
        aheadOfNone();
        wallTimes();
        wallBySectors();
        wallOfEqualOnes();
        wallOfLostLines();
        wallOfNone();
        rows();
        Due.close();
    }

    /** "true; false for none such, the last SECTOR". */
    private static void lostSectors() {
        for (int s = 2; s <= 5; s++) {
            RaceByLaps x = Due.plain(s, 1);
            Due.aCar(x, 0, 0);
            for (int i = -1; i <= 5; i++) {
                boolean right = i >= 0 && i < s - 1;
                Due.is("36: lost " + i + " of " + s, x.lost(i, true), right);
                if (right) Due.is("36: its line", x.known(0, 0, i, 0) == x.at(0, 0, i), false);
            }
            Due.is("36: the last line tells", x.known(0, 0, s - 1, 0), 20000 * s);
            for (int i = -1; i <= 5; i++) {
                boolean right = i >= 0 && i < s - 1;
                Due.is("36: not lost " + i + " of " + s, x.lost(i, false), right);
                if (right) Due.is("36: its line", x.known(0, 0, i, 0), x.at(0, 0, i));
            }
            for (int i : new int[] {MIN, MAX}) Due.is("36: none such", x.lost(i, true), false);
        }
    }

    /** "from its TIME at the latest line ahead of that which is not LOST .. and 1000 for each SECTOR since": any pattern. */
    private static void spans() {
        for (int pattern = 0; pattern < 16; pattern++) {
            RaceByLaps x = Due.plain(5, 2);
            Due.aCar(x, 0, 0);
            Due.aCar(x, 0, 1);
            for (int i = 0; i < 4; i++) x.lost(i, (pattern >> i & 1) != 0);
            for (int q = 0; q < 10; q++) {
                int from = q, to = q;
                while (from >= 0 && (pattern >> from % 5 & 1) != 0) from--;
                while ((pattern >> to % 5 & 1) != 0) to++;
                int least = from == q ? x.at(1, q / 5, q % 5) : (from < 0 ? 300 : x.at(1, from / 5, from % 5)) + 1000 * (q - from);
                int greatest = x.at(1, to / 5, to % 5) - 1000 * (to - q);
                Due.is("37: the least", x.known(1, q / 5, q % 5, 0), least);
                Due.is("37: the greatest", x.known(1, q / 5, q % 5, 1), greatest);
            }
        }
    }

    /** "(or the start)": GRID times its number. */
    private static void fromTheStart() {
        RaceByLaps x = Due.plain(5, 1);
        x.set(6, 2000);
        for (int k = 0; k < 6; k++) Due.aCar(x, 0, 0);
        for (int i = 0; i < 4; i++) x.lost(i, true);
        for (int k = 0; k < 6; k++) {
            for (int i = 0; i < 4; i++) {
                Due.is("37: from the start on", x.known(k, 0, i, 0), 2000 * k + 1000 * (i + 1));
                Due.is("37: to the end of the lap", x.known(k, 0, i, 1), 2000 * k + 100000 - 1000 * (4 - i));
            }
            Due.is("37: that tells", x.known(k, 0, 4, 0), 2000 * k + 100000);
        }
        x.set(6, 0);
        Due.is("37: from 0 on", x.known(5, 0, 0, 0), 1000);
    }

    /** The line ahead may be that of the lap ahead: the BOX does not count. */
    private static void acrossLaps() {
        RaceByLaps x = Due.plain(2, 12);
        Due.aCar(x, 0, 0);
        x.stop(0, 5, -1, 0);
        x.lost(0, true);
        for (int lap = 0; lap < 12; lap++) {
            int begun = lap == 0 ? 0 : x.at(0, lap - 1, 1);
            Due.is("37: from the lap's line", x.known(0, lap, 0, 0), begun + 1000);
            Due.is("37: to the lap's line", x.known(0, lap, 0, 1), x.at(0, lap, 1) - 1000);
        }
    }

    /** "NONE: it was not there, it ended no such line behind". */
    private static void noLineBehind() {
        for (int fuel = 0; fuel <= 6; fuel++) {
            RaceByLaps x = Due.plain(3, 2);
            x.car(0, 9, 1, 0, 0, fuel);
            x.tyre(0, 0, 0);
            x.lost(0, true);
            x.lost(1, true);
            for (int q = 0; q < 6; q++) {
                int to = q / 3 * 3 + 2;
                boolean is = to < fuel;
                Due.is("17: it was there, or not", x.at(0, q / 3, q % 3), q < fuel ? 20000 * (q + 1) : -1);
                Due.is("37: fuel " + fuel + " least at " + q, x.known(0, q / 3, q % 3, 0), !is ? -1 : q == to ? 20000 * (q + 1) : 60000 * (q / 3) + 1000 * (q % 3 + 1));
                Due.is("37: fuel " + fuel + " greatest at " + q, x.known(0, q / 3, q % 3, 1), !is ? -1 : 20000 * (to + 1) - 1000 * (to - q));
            }
        }
    }

    private static void knownOfNone() {
        RaceByLaps x = Due.plain(5, 12);
        Due.is("37: no cars", x.known(0, 0, 0, 0), -1);
        for (int k = 0; k < 6; k++) Due.aCar(x, 0, 0);
        Due.is("37: the last of all", x.known(5, 11, 4, 1), 1200000 + 2500);
        int[][] others = {{-1, 0, 0, 0}, {6, 0, 0, 0}, {0, -1, 0, 0}, {0, 12, 0, 0}, {0, 0, -1, 0}, {0, 0, 5, 0}, {0, 0, 0, -1}, {0, 0, 0, 2},
            {MIN, 0, 0, 0}, {0, MAX, 0, 0}, {0, 0, MIN, 0}, {0, 0, 0, MAX}, {0, 1, -1, 0}, {0, -1, 5, 0}};
        for (int[] o : others) Due.is("37: none such", x.known(o[0], o[1], o[2], o[3]), -1);
    }

    /** "1 it is (its greatest is below the other's least), 0 it is not so". */
    private static void ahead() {
        RaceByLaps x = Due.plain(2, 3);
        Due.aCar(x, 0, 0);
        Due.aCar(x, 0, 1);
        for (int lap = 0; lap < 3; lap++) {
            for (int i = 0; i < 2; i++) {
                Due.is("38: ahead", x.ahead(0, 1, lap, i), 1);
                Due.is("38: behind", x.ahead(1, 0, lap, i), 0);
            }
        }
        x.lost(0, true);
        for (int lap = 0; lap < 3; lap++) {
            Due.is("38: not known", x.ahead(0, 1, lap, 0), 0);
            Due.is("38: not known either", x.ahead(1, 0, lap, 0), 0);
            Due.is("38: known at the end of the lap", x.ahead(0, 1, lap, 1), 1);
        }
    }

    /** Its greatest is 1 below, at, and 1 above the other's least. */
    private static void aheadByOne() {
        for (int lane = 37499; lane <= 37501; lane++) {
            RaceByLaps x = Due.plain(3, 4);
            x.lost(0, true);
            x.set(3, lane);
            Due.aCar(x, 0, 0);
            Due.aCar(x, 0, 1);
            x.stop(1, 0, -1, 0);
            Due.is("38: the greatest of the one that went through", x.known(0, 2, 0, 1), 159000);
            Due.is("38: the least of the one that stopped", x.known(1, 2, 0, 0), 60500 + lane + 60000 + 1000);
            Due.is("38: lane " + lane, x.ahead(0, 1, 2, 0), lane == 37501 ? 1 : 0);
            Due.is("38: never the other way round", x.ahead(1, 0, 2, 0), 0);
        }
        RaceByLaps y = Due.plain(2, 1);
        y.sector(0, 20000, 0);
        Due.aCar(y, 0, 0);
        Due.aCar(y, -300, 1);
        Due.is("38: at one time", y.at(1, 0, 0) - y.at(0, 0, 0), 0);
        Due.is("38: none is ahead", y.ahead(0, 1, 0, 0), 0);
        Due.is("38: nor the other one", y.ahead(1, 0, 0, 0), 0);
    }

    /** "NONE: one of them was not there, others". */
    private static void aheadOfNone() {
        RaceByLaps x = Due.plain(3, 2);
        x.car(0, 9, 1, 0, 0, 5);
        x.tyre(0, 0, 0);
        Due.aCar(x, 0, 1);
        x.car(0, 9, 1, 0, 0, 9);
        Due.is("38: both", x.ahead(0, 1, 1, 1), 1);
        Due.is("38: one was not there", x.ahead(0, 1, 1, 2), -1);
        Due.is("38: the other one was not there", x.ahead(1, 0, 1, 2), -1);
        Due.is("38: one that does not start", x.ahead(1, 2, 0, 0), -1);
        int[][] others = {{-1, 0, 0, 0}, {0, -1, 0, 0}, {3, 0, 0, 0}, {0, 3, 0, 0}, {0, 0, 0, 0}, {1, 1, 0, 0}, {0, 1, -1, 0}, {0, 1, 2, 0},
            {0, 1, 0, -1}, {0, 1, 0, 3}, {MIN, 1, 0, 0}, {0, MAX, 0, 0}, {0, 1, MAX, 0}, {0, 1, 0, MIN}};
        for (int[] o : others) Due.is("38: others", x.ahead(o[0], o[1], o[2], o[3]), -1);
    }

    /** "told by then": at its very TIME it is. */
    private static void wallTimes() {
        RaceByLaps x = Due.plain(2, 2);
        Due.aCar(x, 0, 0);
        Due.aCar(x, -1000, 1);
        int[] times = {0, 19299, 19300, 19999, 20000, 38299, 38300, 40000, 76299, 76300, MAX};
        int[] due = {1, 1, 0, 0, 0, 0, 0, 0, 0, 0, 0};
        for (int i = 0; i < times.length; i++) {
            Due.is("39: the second at " + times[i], x.wall(1, times[i]), due[i]);
            Due.is("39: the first at " + times[i], x.wall(0, times[i]), 1 - due[i]);
        }
        for (int time : new int[] {-1, MIN}) Due.is("39: no such time", x.wall(0, time), -1);
    }

    /** "the most first; then by the TIME of that": each line, up to the last one. */
    private static void wallBySectors() {
        RaceByLaps x = Due.plain(5, 12);
        Due.aCar(x, 0, 0);
        Due.aCar(x, 0, 1);
        x.stop(0, 10, -1, 0);
        Due.is("39: the other one leads the last lap", x.led(11, 0), 1);
        for (int q = 0; q < 55; q++) Due.is("39: the first told, first", x.wall(0, x.at(0, q / 5, q % 5)), 0);
        Due.is("39: as many sectors, earlier", x.wall(0, 1100500), 0);
        Due.is("39: till the other one has ended more", x.wall(0, 1120499), 0);
        Due.is("39: then not", x.wall(0, 1120500), 1);
        Due.is("39: to the end of all", x.wall(0, MAX), 1);
        Due.is("39: the other one is first then", x.wall(1, MAX), 0);
        RaceByLaps y = Due.plain(2, 2);
        y.car(0, 9, 1, 0, 0, 1);
        y.tyre(0, 0, 0);
        Due.aCar(y, 0, 1);
        Due.is("39: as many, earlier", y.wall(0, 40499), 0);
        Due.is("39: one that is out stays where it was", y.wall(0, 40500), 1);
    }

    /** "(0 without) .. then the less number". */
    private static void wallOfEqualOnes() {
        RaceByLaps x = Due.plain(2, 1);
        for (int k = 0; k < 6; k++) {
            if (k % 2 == 0) x.car(0, 9, 1, 0, 0, 9);
            else Due.aCar(x, 0, 0);
        }
        for (int k = 0; k < 6; k++) {
            Due.is("39: none told, by number", x.wall(k, 0), k);
            Due.is("39: none told, by number", x.wall(k, 20299), k);
        }
        int[] due = {3, 0, 4, 1, 5, 2};
        for (int k = 0; k < 6; k++) Due.is("39: those that do not start are behind", x.wall(k, MAX), due[k]);
        RaceByLaps y = Due.plain(2, 1);
        y.sector(0, 20000, 0);
        Due.aCar(y, 0, 0);
        Due.aCar(y, -300, 1);
        Due.is("39: at one time", y.at(1, 0, 0), 20000);
        Due.is("39: the less number", y.wall(0, 20000), 0);
        Due.is("39: the greater one", y.wall(1, 20000), 1);
    }

    /** "as the latest line that is not LOST". */
    private static void wallOfLostLines() {
        RaceByLaps x = Due.plain(3, 2);
        Due.aCar(x, 0, 0);
        Due.aCar(x, -1000, 1);
        x.lost(0, true);
        x.lost(1, true);
        Due.is("39: it leads from the first line on", x.at(1, 0, 0), 19300);
        Due.is("39: nobody knows", x.wall(1, 57299), 1);
        Due.is("39: till it ends the lap", x.wall(1, 57300), 0);
        Due.is("39: the first still has none", x.wall(0, 59999), 1);
        x.lost(1, false);
        Due.is("39: the second line tells", x.wall(1, 38299), 1);
        Due.is("39: the second line tells", x.wall(1, 38300), 0);
    }

    private static void wallOfNone() {
        RaceByLaps x = Due.plain(2, 1);
        Due.is("39: no cars", x.wall(0, 0), -1);
        for (int k = 0; k < 6; k++) Due.aCar(x, 0, 0);
        for (int car : new int[] {-1, 6, MIN, MAX}) Due.is("39: none such", x.wall(car, 0), -1);
        Due.is("39: the last", x.wall(5, 0), 5);
    }

    /** "Number i of the ROW. NoSuchElementException: none such": rows of none, two, four, six. */
    private static void rows() {
        RaceByLaps x = Due.plain(2, 3);
        none(x, 0);
        for (int k = 0; k < 6; k++) Due.aCar(x, 0, 0);
        x.result(0);
        none(x, 6);
        x.best(5, 2, 0);
        none(x, 4);
        x.best(5, 1, 0);
        none(x, 2);
        x.best(5, 0, 0);
        none(x, 0);
    }

    private static void none(RaceByLaps x, int from) {
        Due.is("15: numbers of the row", x.count(7), from);
        for (int i = 0; i < from; i++) Due.is("41: a number", x.row(i) >= 0, true);
        for (int i : new int[] {-1, from, from + 1, 6, 7, MIN, MAX}) Due.raises("41: none such", () -> x.row(i));
    }
}

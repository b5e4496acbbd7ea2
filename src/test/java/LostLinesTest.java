/** Promises 36 to 41: lost, known, ahead, wall, why, row. */
public final class LostLinesTest {
    public static void main(String[] args) {
        lost();
        known();
        knownOfOneOut();
        ahead();
        wall();
        wallOfEqualOnes();
        why();
        row();
        Due.close();
    }

    private static void lost() {
        RaceByLaps x = Due.plain(3, 1);
        Due.is("36: the last sector", x.lost(2, true), false);
        Due.is("36: the last sector", x.lost(2, false), false);
        Due.is("36: none such", x.lost(3, true), false);
        Due.is("36: none such", x.lost(-1, true), false);
        Due.aCar(x, 0, 0);
        Due.is("36: not lost", x.known(0, 0, 0, 1), 20000);
        Due.is("36: lost", x.lost(0, true), true);
        Due.is("36: lost", x.known(0, 0, 0, 1), 39000);
        Due.is("36: still so", x.lost(0, true), true);
        Due.is("36: not lost", x.lost(0, false), true);
        Due.is("36: not lost", x.known(0, 0, 0, 1), 20000);
        Due.is("36: the race is the same", x.at(0, 0, 0), 20000);
    }

    private static void known() {
        RaceByLaps x = Due.plain(4, 2);
        x.set(6, 700);
        Due.aCar(x, 0, 0);
        Due.aCar(x, 0, 1);
        x.stop(1, 0, -1, 0);
        x.lost(0, true);
        x.lost(1, true);
        Due.is("37: from its start on", x.known(1, 0, 0, 0), 700 + 1000);
        Due.is("37: from its start on", x.known(1, 0, 1, 0), 700 + 2000);
        Due.is("37: to the next line", x.known(1, 0, 0, 1), 60700 - 2000);
        Due.is("37: to the next line", x.known(1, 0, 1, 1), 60700 - 1000);
        Due.is("37: a line that tells", x.known(1, 0, 2, 0), 60700);
        Due.is("37: a line that tells", x.known(1, 0, 2, 1), 60700);
        Due.is("37: from the lap's line on, not from the box", x.known(1, 1, 0, 0), 80700 + 1000);
        Due.is("37: of the next lap", x.known(1, 1, 1, 1), 80700 + 15000 + 60000 - 1000);
        int[][] others = {{-1, 0, 0, 0}, {2, 0, 0, 0}, {0, -1, 0, 0}, {0, 2, 0, 0}, {0, 0, -1, 0}, {0, 0, 4, 0}, {0, 0, 0, -1}, {0, 0, 0, 2}, {0, 0, 3, 2}};
        for (int[] o : others) Due.is("37: none such", x.known(o[0], o[1], o[2], o[3]), -1);
    }

    private static void knownOfOneOut() {
        RaceByLaps x = Due.plain(3, 2);
        x.car(0, 9, 1, 0, 0, 4);
        x.tyre(0, 0, 0);
        x.lost(0, true);
        Due.is("37: it was there", x.at(0, 1, 0), 80000);
        Due.is("37: but ended no such line behind", x.known(0, 1, 0, 0), -1);
        Due.is("37: but ended no such line behind", x.known(0, 1, 0, 1), -1);
        Due.is("37: it was not there", x.known(0, 1, 1, 0), -1);
        x.lost(0, false);
        Due.is("37: the line tells", x.known(0, 1, 0, 0), 80000);
        Due.aCar(x, 0, 0);
        Due.is("38: the line tells", x.ahead(0, 1, 1, 0), 1);
        x.lost(0, true);
        Due.is("38: nothing is known of one", x.ahead(0, 1, 1, 0), -1);
        Due.is("38: nothing is known of one", x.ahead(1, 0, 1, 0), -1);
    }

    private static void ahead() {
        RaceByLaps x = Due.plain(3, 2);
        Due.aCar(x, 0, 0);
        Due.aCar(x, 0, 1);
        Due.is("38: 20000 and 20500", x.ahead(0, 1, 0, 0), 1);
        Due.is("38: behind", x.ahead(1, 0, 0, 0), 0);
        x.lost(0, true);
        Due.is("38: not known", x.ahead(0, 1, 0, 0), 0);
        Due.is("38: not known", x.ahead(1, 0, 0, 0), 0);
        x.set(3, 40000);
        x.stop(1, 0, -1, 0);
        Due.is("38: its line ends at 60500", x.known(1, 1, 0, 0), 61500);
        Due.is("38: the other's next", x.known(0, 1, 0, 1), 99000);
        Due.is("38: not known", x.ahead(0, 1, 1, 0), 0);
        Due.is("38: known at the next", x.ahead(0, 1, 1, 1), 1);
        int[][] others = {{-1, 0, 0, 0}, {0, -1, 0, 0}, {2, 0, 0, 0}, {0, 2, 0, 0}, {0, 0, 0, 0}, {0, 1, -1, 0}, {0, 1, 2, 0}, {0, 1, 0, -1}, {0, 1, 0, 3}};
        for (int[] o : others) Due.is("38: others", x.ahead(o[0], o[1], o[2], o[3]), -1);
        RaceByLaps y = Due.plain(2, 2);
        Due.aCar(y, 0, 0);
        y.car(0, 9, 1, 0, 0, 1);
        y.tyre(1, 0, 0);
        Due.is("38: both", y.ahead(0, 1, 0, 0), 1);
        Due.is("38: one was not there", y.ahead(0, 1, 0, 1), -1);
        Due.is("38: one was not there", y.ahead(1, 0, 0, 1), -1);
        RaceByLaps z = Due.plain(2, 1);
        z.sector(0, 20000, 0);
        Due.aCar(z, 0, 0);
        Due.aCar(z, -300, 1);
        Due.is("38: both at 20000", z.at(1, 0, 0), 20000);
        Due.is("38: none is ahead", z.ahead(0, 1, 0, 0), 0);
        Due.is("38: none is ahead", z.ahead(1, 0, 0, 0), 0);
    }

    private static void wall() {
        RaceByLaps x = Due.plain(3, 2);
        Due.aCar(x, 0, 0);
        Due.aCar(x, -1000, 1);
        x.car(0, 9, 1, 0, 0, 9);
        Due.is("39: it passes", x.at(1, 0, 0), 19300);
        Due.is("39: none told: by number", x.wall(0, 19299), 0);
        Due.is("39: none told: by number", x.wall(1, 19299), 1);
        Due.is("39: none told: by number", x.wall(2, 19299), 2);
        Due.is("39: told", x.wall(1, 19300), 0);
        Due.is("39: told", x.wall(0, 19300), 1);
        Due.is("39: both, by time", x.wall(1, 20000), 0);
        Due.is("39: both, by time", x.wall(0, 20000), 1);
        x.lost(0, true);
        Due.is("39: the line is lost", x.wall(1, 20000), 1);
        Due.is("39: till the next", x.wall(1, 38300), 0);
        Due.is("39: one that never starts", x.wall(2, Integer.MAX_VALUE), 2);
        Due.is("39: at the end", x.wall(1, Integer.MAX_VALUE), 0);
        Due.is("39: at the start", x.wall(0, 0), 0);
        Due.is("39: no such time", x.wall(0, -1), -1);
        Due.is("39: no such car", x.wall(3, 0), -1);
        Due.is("39: no such car", x.wall(-1, 0), -1);
        x.lost(1, true);
        Due.is("39: as many sectors as the latest line that tells", x.wall(0, 40000), 0);
        x.finding(0, 1, 1, 60000);
        Due.is("39: what is found does not matter", x.wall(1, 200000), 0);
    }

    private static void wallOfEqualOnes() {
        RaceByLaps x = Due.plain(2, 1);
        x.sector(0, 20000, 0);
        Due.aCar(x, 0, 0);
        Due.aCar(x, -300, 1);
        Due.is("39: both at 20000", x.at(1, 0, 0), 20000);
        Due.is("39: the less number", x.wall(0, 20000), 0);
        Due.is("39: the less number", x.wall(1, 20000), 1);
    }

    private static void why() {
        RaceByLaps x = Due.plain(2, 4);
        Due.aCar(x, 0, 0);
        Due.is("40: no plan", x.why(0, 0), -1);
        Due.plan(x, "l=2:.;l=1:b0;l=4:.", 0);
        Due.is("40: the second line", x.why(0, 0), 1);
        Due.is("40: the first line", x.why(0, 1), 0);
        Due.is("40: none", x.why(0, 2), -1);
        Due.is("40: finished: not asked", x.why(0, 3), -1);
        x.stop(0, 0, -1, 5);
        Due.is("40: done, though a stop is told", x.why(0, 0), 1);
        int[][] others = {{-1, 0}, {1, 0}, {0, -1}, {0, 4}};
        for (int[] o : others) Due.is("40: none such", x.why(o[0], o[1]), -1);
        x.best(0, 1, 0);
        Due.is("40: a try leaves it", x.why(0, 0), 1);
        x.unplan(0);
        Due.is("40: no plan", x.why(0, 0), -1);
        x.car(0, 9, 1, 0, 0, 3);
        x.tyre(1, 0, 0);
        Due.plan(x, ":.", 1);
        Due.is("40: asked", x.why(1, 0), 0);
        Due.is("40: out: not asked", x.why(1, 1), -1);
    }

    private static void row() {
        RaceByLaps x = Due.plain(2, 3);
        Due.raises("41: no row yet", () -> x.row(0));
        Due.aCar(x, 0, 0);
        Due.aCar(x, 0, 0);
        x.result(0);
        Due.is("41: first", x.row(0), 0);
        Due.is("41: second", x.row(1), 1);
        Due.raises("41: none such", () -> x.row(2));
        Due.raises("41: none such", () -> x.row(-1));
        x.best(1, 2, 0);
        int[] way = {0, 0, 1, 0};
        for (int i = 0; i < 4; i++) Due.is("41: a way", x.row(i), way[i]);
        Due.raises("41: none such", () -> x.row(4));
        x.track(2, 2);
        Due.is("41: a new track leaves it", x.row(2), 1);
        Due.is("41: a refused call leaves it", x.best(0, 0, 0), -1);
        Due.is("41: a refused call leaves it", x.count(7), 4);
    }
}

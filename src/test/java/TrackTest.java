/** Promises 1 to 7: a new object, track, sector, tyres, set, rain, flag. */
public final class TrackTest {
    private static final int[] NUMBERS = {500, 5, 200, 15000, 3000, 50, 300, 0};
    private static final int[] LEAST = {100, 0, 0, 0, 0, 0, 0, 0};
    private static final int[] MOST = {2000, 50, 500, 60000, 20000, 200, 2000, 9};
    private static final int[] TYRES = {0, 10, 40, 1000, 0, 5};
    private static final int[] TYRES_MOST = {3000, 100, 200, 5000, 100, 100};

    public static void main(String[] args) {
        newObject();
        track();
        trackRefused();
        sector();
        tyres();
        numbers();
        rain();
        rainRefused();
        flag();
        flagRefused();
        Due.close();
    }

    private static void newObject() {
        RaceByLaps x = new RaceByLaps();
        int[] counts = {2, 1, 0, 0, 0, 0, 0, 0, 0, 0};
        for (int what = 0; what < 10; what++) Due.is("1: count " + what, x.count(what), counts[what]);
        for (int what = 0; what < 8; what++) Due.is("1: number " + what, x.set(what, MOST[what]), NUMBERS[what]);
        for (int kind = 0; kind < 4; kind++) {
            for (int what = 0; what < 6; what++) Due.is("1: tyres " + what, x.tyres(kind, what, 1), TYRES[what]);
        }
        Due.is("1: result", x.result(0), 0);
        Due.is("1: leads", x.leads(), 0);
        Due.is("1: led", x.led(0, 0), -1);
        Due.raises("1: row", () -> x.row(0));
        Due.raises("1: of", () -> x.of(0, 0));
        RaceByLaps y = new RaceByLaps();
        y.car(0, 10, 1, 0, 0, 10);
        y.tyre(0, 0, 0);
        Due.is("1: first sector, 20000 and 9 fuel", y.at(0, 0, 0), 20045);
        Due.is("1: second sector, 20000, 8 fuel and age 1", y.at(0, 0, 1), 20045 + 20050);
        y.car(0, 10, 1, 0, 0, 10);
        y.tyre(1, 0, 0);
        y.sector(1, 60000, 0);
        Due.is("1: held behind", y.at(1, 0, 0), 20545);
    }

    private static void track() {
        RaceByLaps x = new RaceByLaps();
        x.set(0, 700);
        x.tyres(2, 4, 33);
        x.track(3, 4);
        x.sector(0, 5000, -1);
        x.lost(0, true);
        x.rain(0, 0, 50);
        x.flag(-1, 0, 100, 0);
        x.car(0, 100, 1, 0, 0, 100);
        x.tyre(0, 0, 0);
        x.option(0, -1, 0);
        Due.rule(x, "1:+1", 0);
        x.finding(0, 0, 0, 7);
        x.result(0);
        x.sign(0x41424344);
        Due.is("2: track", x.track(2, 2), true);
        int[] counts = {2, 2, 0, 0, 0, 0, 0, 1, 4, 0};
        for (int what = 0; what < 10; what++) Due.is("2: count " + what, x.count(what), counts[what]);
        Due.is("2: numbers stay", x.set(0, 500), 700);
        Due.is("2: tyres stay", x.tyres(2, 4, 0), 33);
        x.end(0);
        Due.is("2: the first car again", x.car(0, 200, 1, 0, 0, 100), 0);
        Due.is("2: it has no sets", x.of(0, 7), -1);
        x.tyre(0, 0, 0);
        Due.is("2: length, rain as at first", x.at(0, 0, 0), 20000 + 99 * 5);
        Due.is("2: not lost", x.known(0, 0, 0, 0), 20495);
        Due.is("2: no rules", x.seconds(0, 99), 0);
        Due.is("2: no options", x.option(0, -1, 0), 1);
    }

    private static void trackRefused() {
        RaceByLaps x = Due.plain(3, 4);
        Due.aCar(x, 0, 0);
        int[][] others = {{1, 1}, {6, 1}, {2, 0}, {2, 13}, {-1, 1}, {2, -1}, {Integer.MAX_VALUE, 1}, {2, Integer.MIN_VALUE}};
        for (int[] o : others) Due.is("2: refused " + o[0] + " " + o[1], x.track(o[0], o[1]), false);
        Due.is("2: sectors stay", x.count(0), 3);
        Due.is("2: laps stay", x.count(1), 4);
        Due.is("2: cars stay", x.count(2), 1);
        Due.is("2: the most", x.track(5, 12), true);
        Due.is("2: the least", x.track(2, 1), true);
    }

    private static void sector() {
        RaceByLaps x = Due.plain(3, 1);
        Due.aCar(x, 0, 0);
        int[][] others = {{-1, 20000, 0}, {3, 20000, 0}, {0, 4999, 0}, {0, 60001, 0}, {0, 20000, -2}, {0, 20000, 5001}};
        for (int[] o : others) Due.is("3: refused", x.sector(o[0], o[1], o[2]), false);
        Due.is("3: nothing changed", x.at(0, 0, 2), 60000);
        Due.is("3: the least", x.sector(0, 5000, 0), true);
        Due.is("3: the most", x.sector(2, 60000, 5000), true);
        Due.is("3: no ease", x.sector(1, 7000, -1), true);
        Due.is("3: lengths", x.at(0, 0, 0), 5000);
        Due.is("3: lengths", x.at(0, 0, 1), 12000);
        Due.is("3: lengths", x.at(0, 0, 2), 72000);
    }

    private static void tyres() {
        RaceByLaps x = new RaceByLaps();
        for (int kind = 0; kind < 4; kind++) {
            for (int what = 0; what < 6; what++) {
                Due.is("4: below", x.tyres(kind, what, -1), -1);
                Due.is("4: above", x.tyres(kind, what, TYRES_MOST[what] + 1), -1);
                Due.is("4: the most", x.tyres(kind, what, TYRES_MOST[what]), TYRES[what]);
                Due.is("4: the least", x.tyres(kind, what, 0), TYRES_MOST[what]);
                Due.is("4: stays", x.tyres(kind, what, kind + what), 0);
            }
        }
        Due.is("4: of its kind alone", x.tyres(2, 3, 0), 5);
        Due.is("4: no kind", x.tyres(-1, 0, 0), -1);
        Due.is("4: no kind", x.tyres(4, 0, 0), -1);
        Due.is("4: no what", x.tyres(0, -1, 0), -1);
        Due.is("4: no what", x.tyres(0, 6, 0), -1);
    }

    private static void numbers() {
        RaceByLaps x = new RaceByLaps();
        for (int what = 0; what < 8; what++) {
            Due.is("5: below", x.set(what, LEAST[what] - 1), -1);
            Due.is("5: above", x.set(what, MOST[what] + 1), -1);
            Due.is("5: the most", x.set(what, MOST[what]), NUMBERS[what]);
            Due.is("5: the least", x.set(what, LEAST[what]), MOST[what]);
            Due.is("5: what it was", x.set(what, MOST[what]), LEAST[what]);
        }
        Due.is("5: no what", x.set(-1, 100), -1);
        Due.is("5: no what", x.set(8, 0), -1);
    }

    private static void rain() {
        RaceByLaps x = Due.plain(2, 3);
        Due.aCar(x, 0, 0);
        Due.is("6: at a time", x.rain(0, 40000, 60), 1);
        Due.is("6: that is too early", x.at(0, 0, 0), 20000);
        Due.is("6: 60 times 5 from 40000 on", x.at(0, 1, 0), 60300);
        Due.is("6: the other sector is dry", x.at(0, 1, 1), 80300);
        Due.is("6: on it goes", x.at(0, 2, 0), 100600);
        Due.is("6: earlier, told later", x.rain(0, 0, 10), 2);
        Due.is("6: it holds till 40000", x.at(0, 0, 0), 20050);
        Due.is("6: then the greater time", x.at(0, 1, 0), 40050 + 20300);
        Due.is("6: equal times", x.rain(0, 40000, 20), 3);
        Due.is("6: the one told last", x.at(0, 1, 0), 40050 + 20100);
        x.tyres(0, 4, 50);
        Due.is("6: the size of wet less likes", x.at(0, 1, 0), 20000 + 40 * 5 + 20000 + 50 * 5 + 20000 + 30 * 5);
        x.tyres(0, 5, 0);
        Due.is("6: nothing missed", x.at(0, 1, 0), 60000);
    }

    private static void rainRefused() {
        RaceByLaps x = Due.plain(2, 1);
        int[][] others = {{-1, 0, 0}, {2, 0, 0}, {0, -1, 0}, {0, 0, -1}, {0, 0, 101}};
        for (int[] o : others) Due.is("6: refused", x.rain(o[0], o[1], o[2]), -1);
        Due.is("6: none told", x.count(3), 0);
        for (int i = 1; i <= 30; i++) Due.is("6: told", x.rain(1, Integer.MAX_VALUE, i), i);
        Due.is("6: 30 were told", x.rain(1, 0, 0), -1);
        Due.is("6: 30 stay", x.count(3), 30);
    }

    private static void flag() {
        RaceByLaps x = Due.plain(2, 2);
        Due.aCar(x, 0, 0);
        Due.aCar(x, -1000, 1);
        Due.is("7: no flag, it passes", x.at(1, 0, 0), 19300);
        Due.is("7: yellow up to its beginning", x.flag(0, 0, 300, 0), 1);
        Due.is("7: that time is not in it", x.at(1, 0, 0), 19300);
        Due.is("7: yellow in the other sector", x.flag(1, 0, 10000, 0), 2);
        Due.is("7: does not matter", x.at(1, 0, 0), 19300);
        Due.is("7: yellow over all", x.flag(-1, 300, 301, 0), 3);
        Due.is("7: no passing", x.at(1, 0, 0), 20500);
        Due.is("7: slow, told of one sector", x.flag(1, 0, 1, 1), 4);
        Due.is("7: is over all: 150 by 100", x.at(0, 0, 0), 30000);
        Due.is("7: an empty flag", x.flag(0, 5, 5, 1), 5);
    }

    private static void flagRefused() {
        RaceByLaps x = Due.plain(3, 1);
        int[][] others = {{-2, 0, 1, 0}, {3, 0, 1, 0}, {0, -1, 1, 0}, {0, 2, 1, 0}, {0, -2, -1, 0}, {0, 0, 1, -1}, {0, 0, 1, 2}};
        for (int[] o : others) Due.is("7: refused", x.flag(o[0], o[1], o[2], o[3]), -1);
        Due.is("7: none told", x.count(4), 0);
        for (int i = 1; i <= 20; i++) Due.is("7: told", x.flag(2, 7, 7, i % 2), i);
        Due.is("7: 20 were told", x.flag(0, 0, 0, 0), -1);
        Due.is("7: 20 stay", x.count(4), 20);
    }
}

/** Terms 3 and promises 16 to 20: of, at, led, waited, leads. */
public final class RaceTest {
    public static void main(String[] args) {
        of();
        outOfFuel();
        leastTime();
        held();
        passing();
        lapped();
        offences();
        slow();
        finished();
        equalTimes();
        at();
        led();
        waited();
        leads();
        Due.close();
    }

    private static void all(String what, RaceByLaps x, int car, int... due) {
        for (int i = 0; i < due.length; i++) Due.is(what + ", of " + i, x.of(car, i), due[i]);
    }

    private static void of() {
        RaceByLaps x = Due.plain(2, 3);
        x.car(0, 100, 2, 0, 0, 50);
        all("16: without a set", x, 0, 2, 0, 0, 0, 0, 0, 50, -1, -1, 0, 0);
        x.tyre(0, 1, 5);
        all("16: one set", x, 0, 1, 120000, 6, 0, 1, 0, 38, 0, 11, 0, 0);
        x.tyre(0, 1, 0);
        x.stop(0, 0, 1, 0);
        all("16: another one of its kind", x, 0, 1, 138000, 6, 1, 1, 0, 38, 1, 4, 0, 0);
        x.tyre(0, 3, 0);
        x.stop(0, 1, 2, 0);
        all("16: and one of another kind", x, 0, 1, 156000, 6, 2, 2, 0, 38, 2, 2, 0, 0);
        x.track(2, 2);
        x.car(0, 100, 2, 0, 0, 7);
        all("16: a new car without a set", x, 0, 2, 0, 0, 0, 0, 0, 7, -1, -1, 0, 0);
        for (int what : new int[] {-1, 11, Integer.MIN_VALUE}) Due.raises("16: another what", () -> x.of(0, what));
        for (int car : new int[] {-1, 1, Integer.MAX_VALUE}) Due.raises("16: no such car", () -> x.of(car, 0));
    }

    private static void outOfFuel() {
        RaceByLaps x = Due.plain(2, 2);
        x.car(0, 10, 3, 0, 0, 6);
        x.tyre(0, 0, 0);
        all("3: just enough for two", x, 0, 2, 40000, 2, 0, 1, 0, 0, 0, 2, 0, 0);
        Due.is("3: no time there", x.at(0, 1, 0), -1);
        x.order(0, 0, 0, -1);
        all("3: four each", x, 0, 2, 19800, 1, 0, 1, 0, 2, 0, 2, 0, 0);
        x.order(0, 0, 0, 1);
        all("3: two each", x, 0, 2, 60600, 3, 0, 1, 0, 0, 0, 3, 0, 0);
        x.car(0, 10, 1, 0, 0, 0);
        x.tyre(1, 2, 0);
        all("3: nothing at all", x, 1, 2, 300, 0, 0, 1, 0, 0, 0, 0, 0, 0);
        x.order(1, 0, 0, 1);
        Due.is("3: burns nothing in mode 1", x.of(1, 0), 1);
        RaceByLaps y = Due.plain(2, 2);
        y.car(0, 10, 1, 0, 0, 1);
        y.tyre(0, 0, 0);
        Due.aCar(y, 0, 1);
        y.sector(1, 20000, -1);
        Due.is("3: one that is out there holds up nobody", y.at(1, 0, 1), 40500);
        Due.is("3: no more", y.of(1, 10), 1);
    }

    private static void leastTime() {
        RaceByLaps x = new RaceByLaps();
        x.set(1, 0);
        x.set(2, 500);
        x.sector(0, 5000, 0);
        x.car(-2000, 9, 1, 0, 0, 9);
        x.tyre(0, 0, 0);
        x.order(0, 0, 0, -1);
        Due.is("3: as short as it gets", x.at(0, 0, 0), 2500);
    }

    private static void held() {
        RaceByLaps x = Due.plain(2, 2);
        Due.aCar(x, 0, 0);
        Due.aCar(x, -200, 1);
        Due.is("3: 20100 is too near", x.at(1, 0, 0), 20500);
        Due.is("16: held", x.of(1, 10), 4);
        x.set(0, 100);
        Due.is("3: at its end and gap it is free", x.at(1, 0, 0), 20100);
        Due.is("3: then not", x.at(1, 0, 1), 40100);
        x.set(0, 101);
        Due.is("3: held", x.at(1, 0, 0), 20101);
        Due.aCar(x, -2000, 2);
        Due.is("3: ends at 18600: passes both", x.at(2, 0, 0), 18600);
        Due.is("16: passed", x.of(2, 9), 2);
        x.sector(0, 20000, 1500);
        Due.is("3: passes the second, held by the first", x.at(2, 0, 0), 20000 + 101);
        Due.is("16: passed", x.of(2, 9) > 0, true);
        RaceByLaps y = Due.plain(2, 1);
        Due.aCar(y, 2000, 0);
        Due.aCar(y, 0, 1);
        Due.aCar(y, 0, 2);
        y.sector(0, 20000, 1700);
        Due.is("3: passes", y.at(1, 0, 0), 20300);
        Due.is("3: the latest begun is asked first", y.at(2, 0, 0), 20800);
        Due.is("3: then no more", y.of(2, 9), 0);
    }

    private static void passing() {
        RaceByLaps x = Due.plain(2, 1);
        Due.aCar(x, 0, 0);
        Due.aCar(x, -600, 1);
        Due.is("3: 19700 and 300 is at its end", x.at(1, 0, 0), 19700);
        x.sector(0, 20000, 301);
        Due.is("3: behind it", x.at(1, 0, 0), 20500);
        x.sector(0, 20000, -1);
        Due.is("3: no ease", x.at(1, 0, 0), 20500);
        x.sector(0, 20000, 0);
        Due.is("3: ease 0", x.at(1, 0, 0), 19700);
        Due.is("16: passed", x.of(1, 9), 1);
        Due.is("16: that one passed none", x.of(0, 9), 0);
    }

    /** Car 0 takes 5000 for a sector, car 1 takes 13000: at 15000 car 0 comes to its second sector again. */
    private static void lapped() {
        RaceByLaps x = Due.plain(2, 3);
        x.set(6, 0);
        x.sector(0, 5000, -1);
        x.sector(1, 5000, -1);
        x.tyres(1, 0, 3000);
        x.tyres(1, 3, 5000);
        x.tyres(1, 2, 0);
        Due.aCar(x, 0, 0);
        int slow = x.car(0, 200, 1, 1, 0, 200);
        x.tyre(slow, 1, 0);
        Due.is("3: the fast one", x.at(0, 2, 1), 30000);
        Due.is("3: the slow one", x.at(1, 0, 0), 13000);
        Due.is("3: it is lapped, though there is no ease", x.of(0, 9), 1);
        Due.is("3: it ends its first lap", x.at(1, 0, 1), 26000);
        Due.is("3: and its second sector of the next", x.at(1, 1, 1), 52000);
        Due.is("3: finished with two laps", x.of(1, 0), 1);
        Due.is("3: finished with two laps", x.of(1, 2), 4);
        Due.is("26: fewer laps, behind", x.place(1, 0), 1);
        x.flag(1, 15000, 15001, 0);
        Due.is("3: yellow there: it is held", x.at(0, 1, 1), 26500);
        x.track(2, 3);
        x.tyres(1, 3, 2000);
        x.sector(0, 5000, -1);
        x.sector(1, 5000, 5000);
        Due.aCar(x, 0, 0);
        x.car(0, 200, 1, 1, 0, 200);
        x.tyre(1, 1, 0);
        Due.is("3: both at 20000, one a lap behind: ease 0", x.at(1, 0, 1), 20000);
        Due.is("3: it passes", x.at(0, 1, 1), 20000);
        Due.is("16: passed", x.of(0, 9), 1);
    }

    private static void offences() {
        RaceByLaps x = Due.plain(2, 1);
        Due.aCar(x, 2000, 0);
        Due.aCar(x, 1000, 1);
        Due.aCar(x, -1000, 2);
        x.flag(0, 600, 601, 0);
        Due.is("3: yellow as it begins", x.at(2, 0, 0), 21800);
        x.order(2, 0, 1, 1);
        Due.is("3: bold", x.at(2, 0, 0), 19600);
        Due.is("16: two offences", x.of(2, 5), 2);
        Due.is("16: two passed", x.of(2, 9), 2);
        x.set(7, 1);
        Due.is("3: not bold yet", x.of(2, 5), 0);
        x.set(7, 0);
        x.sector(0, 20000, 3000);
        Due.is("3: held", x.at(1, 0, 0), 22500);
        Due.is("3: bold is not fast", x.at(2, 0, 0), 23000);
        RaceByLaps y = Due.plain(2, 1);
        Due.aCar(y, 2000, 0);
        Due.aCar(y, 0, 1);
        y.order(1, 0, 1, 1);
        Due.is("3: bold without a flag", y.of(1, 9), 1);
        Due.is("3: is no offence", y.of(1, 5), 0);
    }

    private static void slow() {
        RaceByLaps x = Due.plain(2, 2);
        x.set(1, 5);
        x.tyres(0, 1, 10);
        x.sector(0, 20001, 300);
        x.flag(0, 0, 1000, 1);
        Due.aCar(x, 0, 0);
        Due.is("3: alone, all others begun fewer: cut", x.at(0, 0, 0), 30001);
        Due.is("3: age stays, fuel burns", x.at(0, 0, 1), 30001 + 20000 + 198 * 5);
        Due.aCar(x, 0, 1);
        x.sector(0, 30000, 0);
        Due.is("3: the first at the start", x.at(0, 0, 0), 45000);
        Due.is("3: the second has begun as many: 120, no passing", x.at(1, 0, 0), 45500);
        x.order(1, 0, 1, 1);
        Due.is("3: bold", x.at(1, 0, 0), 36300);
        Due.is("3: an offence", x.of(1, 5), 1);
        Due.aCar(x, 0, 2);
        Due.is("3: behind the latest begun, no more are asked", x.at(2, 0, 0), 36800);
        RaceByLaps y = Due.plain(2, 2);
        Due.aCar(y, 2000, 0);
        Due.aCar(y, -2000, 1);
        y.flag(-1, 18000, 19000, 1);
        Due.is("3: the one in front", y.at(1, 0, 1), 18300 + 30000);
        Due.is("3: the one behind is free again, and passes", y.at(0, 0, 1), 44000);
        slowWithFewer();
    }

    private static void slowWithFewer() {
        RaceByLaps x = Due.plain(2, 2);
        x.car(0, 9, 1, 0, 0, 2);
        x.tyre(0, 0, 0);
        Due.aCar(x, 2000, 1);
        x.flag(0, 44000, 45000, 1);
        Due.is("3: one that is out does not count", x.at(1, 1, 0), 44300 + 30000);
        RaceByLaps y = Due.plain(2, 2);
        Due.aCar(y, 0, 0);
        Due.aCar(y, 0, 1);
        y.set(3, 60000);
        y.stop(1, 0, -1, 0);
        y.flag(0, 100000, 110000, 1);
        Due.is("3: nor does one that is finished", y.at(1, 1, 0), 40500 + 60000 + 30000);
    }

    private static void finished() {
        RaceByLaps x = Due.plain(2, 3);
        Due.aCar(x, 0, 0);
        Due.aCar(x, 2000, 1);
        x.stop(1, 0, -1, 0);
        x.stop(1, 1, -1, 0);
        Due.is("3: the first", x.of(0, 1), 120000);
        Due.is("3: the other one ends its second lap at 103300 and goes on", x.of(1, 2), 6);
        Due.is("3: till", x.of(1, 1), 103300 + 15000 + 44000);
        x.set(3, 40000);
        Due.is("3: it ends its second lap at 128300", x.at(1, 1, 1), 44300 + 40000 + 44000);
        Due.is("3: finished then", x.of(1, 0), 1);
        Due.is("3: finished then", x.of(1, 1), 128300);
        Due.is("3: finished with four sectors", x.of(1, 2), 4);
        Due.is("3: no stop any more", x.of(1, 3), 1);
        x.set(3, 31700);
        Due.is("3: it went on ahead of the first one", x.of(1, 2), 6);
        RaceByLaps y = Due.plain(2, 3);
        y.sector(1, 20000, 0);
        Due.aCar(y, 0, 0);
        Due.aCar(y, -1000, 1);
        y.stop(1, 0, -1, 0);
        y.set(3, 43700);
        Due.is("3: both at 120000", y.at(1, 1, 1), 120000);
        Due.is("3: at or ahead of it", y.of(1, 1), 120000);
        Due.is("3: finished with four", y.of(1, 2), 4);
        y.set(3, 43699);
        Due.is("3: ahead of it", y.at(1, 1, 1), 119999);
        Due.is("3: it goes on", y.of(1, 2), 6);
    }

    private static void equalTimes() {
        RaceByLaps x = Due.plain(2, 2);
        x.set(6, 0);
        Due.aCar(x, 0, 0);
        Due.aCar(x, 0, 1);
        Due.is("3: the less number goes on", x.at(0, 0, 0), 20000);
        Due.is("3: the other one is held", x.at(1, 0, 0), 20500);
        Due.is("18: by time", x.led(0, 0), 0);
        RaceByLaps y = Due.plain(2, 3);
        y.set(6, 2000);
        y.sector(0, 5000, -1);
        y.sector(1, 5000, -1);
        for (int k = 0; k < 6; k++) Due.aCar(y, 0, 0);
        Due.is("3: car 0 begins its third sector as car 5 its first", y.at(0, 0, 1), 10000);
        Due.is("3: the one that has begun more goes on first", y.at(0, 1, 0), 15000);
        Due.is("3: the other one is held behind it", y.at(5, 0, 0), 15500);
    }

    private static void at() {
        RaceByLaps x = Due.plain(3, 2);
        Due.aCar(x, 0, 0);
        for (int lap = 0; lap < 2; lap++) {
            for (int i = 0; i < 3; i++) Due.is("17: at", x.at(0, lap, i), 20000 * (3 * lap + i + 1));
        }
        int[][] others = {{-1, 0, 0}, {1, 0, 0}, {0, -1, 0}, {0, 2, 0}, {0, 0, -1}, {0, 0, 3}};
        for (int[] o : others) Due.is("17: none such", x.at(o[0], o[1], o[2]), -1);
    }

    private static void led() {
        RaceByLaps x = Due.plain(2, 2);
        x.set(6, 2000);
        Due.aCar(x, 2000, 0);
        Due.aCar(x, -2000, 1);
        x.car(0, 9, 1, 2, 0, 3);
        x.tyre(2, 0, 0);
        int[] first = {1, 0, 2};
        Due.is("18: 38000", x.at(1, 0, 1), 38000);
        Due.is("18: 44000", x.at(0, 0, 1), 44000);
        Due.is("18: 44500", x.at(2, 0, 1), 44500);
        for (int i = 0; i < 3; i++) Due.is("18: led", x.led(0, i), first[i]);
        Due.is("18: 74000", x.at(1, 1, 1), 74000);
        Due.is("18: out", x.led(1, 2), -1);
        Due.is("18: two", x.led(1, 1), 0);
        int[][] others = {{-1, 0}, {2, 0}, {0, -1}, {0, 3}, {0, 6}};
        for (int[] o : others) Due.is("18: none such", x.led(o[0], o[1]), -1);
        RaceByLaps y = Due.plain(2, 1);
        Due.aCar(y, 2000, 0);
        Due.aCar(y, 1500, 1);
        y.sector(0, 20000, -1);
        y.sector(1, 20000, 0);
        Due.is("18: at one time", y.at(1, 0, 1), y.at(0, 0, 1));
        Due.is("18: then by number", y.led(0, 0), 0);
        Due.is("18: then by number", y.led(0, 1), 1);
        Due.is("26: so is the result", y.place(0, 0), 0);
        Due.is("26: so is the result", y.place(1, 0), 1);
    }

    private static void waited() {
        RaceByLaps x = Due.plain(2, 3);
        for (int k = 0; k < 4; k++) {
            x.car(0, 200, 1, k == 3 ? 1 : 0, 0, 100);
            x.tyre(k, 0, 0);
            x.stop(k, 0, -1, 40);
        }
        int[] ends = {40000, 40500, 41000, 41500};
        for (int k = 0; k < 4; k++) Due.is("19: ends", x.at(k, 0, 1), ends[k]);
        Due.is("19: the first is there from 55000 to 57000", x.waited(0), 0);
        Due.is("19: the second comes at 55500", x.waited(1), 1500);
        Due.is("19: the third at 56000, and it is free at 59000", x.waited(2), 3000);
        Due.is("19: another team's", x.waited(3), 0);
        Due.is("19: next sector", x.at(1, 1, 0), 79000);
        Due.is("19: next sector", x.at(2, 1, 0), 81000);
        x.stop(1, 1, -1, 10);
        x.stop(0, 1, -1, 100);
        Due.is("19: the first again from 112000 on, 64 fuel", x.at(0, 2, 0), 112000 + 3200 + 20000);
        Due.is("19: the second comes at 114000: all of it together", x.waited(1), 2700);
        x.set(5, 200);
        Due.is("19: fill 8000", x.waited(2), 15000);
        Due.is("19: none such", x.waited(4), -1);
        Due.is("19: none such", x.waited(-1), -1);
    }

    private static void leads() {
        RaceByLaps x = Due.plain(2, 4);
        Due.aCar(x, 0, 0);
        Due.is("20: none", x.leads(), 0);
        Due.aCar(x, 0, 1);
        Due.is("20: it stays behind", x.leads(), 0);
        x.stop(0, 0, -1, 0);
        Due.is("20: the other one is in front", x.leads(), 1);
        x.stop(1, 1, -1, 0);
        Due.is("20: and back", x.leads(), 2);
        x.stop(1, 1, -1, 200);
        x.stop(0, 2, -1, 0);
        Due.is("20: and again", x.leads(), 3);
        RaceByLaps y = Due.plain(2, 3);
        y.car(0, 9, 1, 0, 0, 2);
        y.tyre(0, 0, 0);
        Due.is("20: laps that none ended do not count", y.leads(), 0);
        Due.aCar(y, 0, 1);
        Due.is("20: the first is out", y.leads(), 1);
        y.track(2, 1);
        Due.is("20: no cars", y.leads(), 0);
    }
}

/** Promises 8 to 15: car, tyre, order, stop, drop, plan, unplan, count. */
public final class CarsTest {
    public static void main(String[] args) {
        car();
        tyre();
        order();
        orderRefused();
        stop();
        stopRefused();
        drop();
        plan();
        planActs();
        planLetters();
        planTraffic();
        planBox();
        planWrong();
        unplan();
        count();
        Due.close();
    }

    private static void car() {
        RaceByLaps x = Due.plain(2, 1);
        int[][] others = {{-2001, 100, 1, 0, 0, 0}, {2001, 100, 1, 0, 0, 0}, {0, 0, 1, 0, 0, 0}, {0, 201, 1, 0, 0, 0},
            {0, 100, 0, 0, 0, 0}, {0, 100, 10, 0, 0, 0}, {0, 100, 1, -1, 0, 0}, {0, 100, 1, 4, 0, 0},
            {0, 100, 1, 0, -1, 0}, {0, 100, 1, 0, 2, 0}, {0, 100, 1, 0, 0, -1}, {0, 100, 1, 0, 0, 101}};
        for (int[] o : others) Due.is("8: refused", x.car(o[0], o[1], o[2], o[3], o[4], o[5]), -1);
        Due.is("8: no cars", x.count(2), 0);
        Due.is("8: the least", x.car(-2000, 1, 1, 0, 0, 0), 0);
        Due.is("8: the most", x.car(2000, 200, 9, 3, 1, 200), 1);
        for (int k = 2; k < 6; k++) Due.is("8: its number", x.car(0, 100, 1, 0, 0, k), k);
        Due.is("8: 6", x.car(0, 100, 1, 0, 0, 0), -1);
        Due.is("8: 6 stay", x.count(2), 6);
        Due.is("8: fuel", x.of(5, 6), 5);
        Due.is("8: without a set it is out", x.of(5, 0), 2);
        Due.is("8: from the start on", x.of(5, 1), 0);
        x.tyre(1, 0, 0);
        Due.is("8: off", x.at(1, 0, 0), 22300);
        Due.is("8: burn", x.of(1, 6), 182);
    }

    private static void tyre() {
        RaceByLaps x = Due.plain(2, 1);
        x.car(0, 100, 1, 0, 0, 100);
        int[][] others = {{-1, 0, 0}, {1, 0, 0}, {0, -1, 0}, {0, 4, 0}, {0, 0, -1}, {0, 0, 101}};
        for (int[] o : others) Due.is("9: refused", x.tyre(o[0], o[1], o[2]), -1);
        Due.is("9: still none", x.of(0, 7), -1);
        for (int set = 0; set < 4; set++) Due.is("9: its number", x.tyre(0, 3 - set, 100 - set), set);
        Due.is("9: 4", x.tyre(0, 0, 0), -1);
        Due.is("9: at the start set 0", x.of(0, 7), 0);
        Due.is("9: its age, and 2 sectors", x.of(0, 8), 102);
        x.tyres(3, 0, 111);
        x.tyres(3, 1, 2);
        Due.is("9: its kind", x.at(0, 0, 0), 20111 + 200);
        x.tyres(3, 3, 5000);
        x.tyres(3, 2, 101);
        Due.is("9: short of the cliff", x.at(0, 0, 0), 20311);
        Due.is("9: at the cliff", x.at(0, 0, 1), 20311 + 20111 + 202 + 5000);
    }

    private static void order() {
        RaceByLaps x = Due.plain(2, 3);
        x.car(0, 200, 2, 0, 0, 100);
        x.tyre(0, 0, 0);
        Due.is("10: how many", x.order(0, 1, 0, 1), 1);
        Due.is("10: not yet", x.at(0, 0, 1), 40000);
        Due.is("10: push more in mode 1", x.at(0, 1, 0), 60200);
        Due.is("10: it stays so", x.at(0, 2, 1), 120800);
        Due.is("10: burns one less", x.of(0, 6), 100 - 4 - 4);
        Due.is("10: age as ever", x.of(0, 8), 6);
        Due.is("10: another one", x.order(0, 2, 0, -1), 2);
        Due.is("10: less in mode -1", x.at(0, 2, 1), 40000 + 40400 + 39600);
        Due.is("10: burns one more", x.of(0, 6), 100 - 4 - 2 - 6);
        Due.is("10: age 2 more each", x.of(0, 8), 8);
        x.order(0, 2, 0, 0);
        Due.is("10: of those heard at once the one told last", x.at(0, 2, 1), 120400);
        Due.is("10: lag", x.set(7, 1), 0);
        Due.is("10: heard a sector later", x.at(0, 1, 0), 60000);
        Due.is("10: and then", x.at(0, 1, 1), 80200);
        Due.is("10: till the next is heard", x.at(0, 2, 1), 80200 + 20200 + 20000);
        x.set(7, 9);
        Due.is("10: too late for this race", x.at(0, 2, 1), 120000);
        x.set(7, 0);
        x.set(2, 500);
        Due.is("10: push", x.at(0, 1, 0), 60500);
    }

    private static void orderRefused() {
        RaceByLaps x = Due.plain(2, 3);
        Due.aCar(x, 0, 0);
        int[][] others = {{-1, 0, 0, 0}, {1, 0, 0, 0}, {0, -1, 0, 0}, {0, 3, 0, 0}, {0, 0, -1, 0}, {0, 0, 2, 0},
            {0, 0, 0, -2}, {0, 0, 0, 2}, {0, 0, 1, -1}, {0, 0, 1, 2}};
        for (int[] o : others) Due.is("10: refused", x.order(o[0], o[1], o[2], o[3]), -1);
        for (int i = 1; i <= 12; i++) Due.is("10: told", x.order(0, 2, i % 2, 1), i);
        Due.is("10: 12", x.order(0, 2, 0, 0), -1);
        Due.is("10: another car has its own", Due.aCar(x, 0, 0), 1);
        Due.is("10: another car has its own", x.order(1, 0, 1, 1), 1);
    }

    private static void stop() {
        RaceByLaps x = Due.plain(2, 3);
        x.car(0, 100, 9, 0, 0, 60);
        x.tyre(0, 0, 0);
        Due.is("11: how many", x.stop(0, 0, -1, 10), 1);
        Due.is("11: lane and 10 times fill", x.at(0, 1, 0), 40000 + 15000 + 500 + 20000);
        Due.is("11: fuel", x.of(0, 6), 60 + 10 - 54);
        Due.is("11: stops made", x.of(0, 3), 1);
        x.stop(0, 0, 1, 200);
        Due.is("11: the one told last, tank full, no such set", x.at(0, 1, 0), 40000 + 15000 + 58 * 50 + 20000);
        Due.is("11: one of a lap", x.of(0, 3), 1);
        x.tyre(0, 2, 7);
        Due.is("11: a set told later", x.at(0, 1, 0), 40000 + 15000 + 58 * 50 + 3000 + 20000);
        Due.is("11: it is on", x.of(0, 7), 1);
        Due.is("11: its age", x.of(0, 8), 11);
        Due.is("11: two kinds", x.of(0, 4), 2);
        x.stop(0, 1, 1, 0);
        Due.is("11: on already: no change", x.at(0, 2, 0), 40000 + 15000 + 58 * 50 + 3000 + 40000 + 15000 + 20000);
        x.stop(0, 1, 0, 0);
        Due.is("11: back to the first set, as old as it was", x.of(0, 8), 4);
        Due.is("11: stops made", x.of(0, 3), 2);
    }

    private static void stopRefused() {
        RaceByLaps x = Due.plain(2, 3);
        Due.aCar(x, 0, 0);
        int[][] others = {{-1, 0, 0, 0}, {1, 0, 0, 0}, {0, -1, 0, 0}, {0, 2, 0, 0}, {0, 0, -2, 0}, {0, 0, 4, 0}, {0, 0, 0, -1}, {0, 0, 0, 201}};
        for (int[] o : others) Due.is("11: refused", x.stop(o[0], o[1], o[2], o[3]), -1);
        for (int i = 1; i <= 5; i++) Due.is("11: told", x.stop(0, 1, 3, 200), i);
        Due.is("11: 5", x.stop(0, 0, 0, 0), -1);
        RaceByLaps y = Due.plain(2, 1);
        Due.aCar(y, 0, 0);
        Due.is("11: no stop in a race of one lap", y.stop(0, 0, 0, 0), -1);
    }

    private static void drop() {
        RaceByLaps x = Due.plain(2, 4);
        x.car(0, 200, 1, 0, 0, 10);
        x.tyre(0, 0, 0);
        for (int lap = 0; lap < 3; lap++) x.stop(0, lap, -1, 10 * (lap + 1));
        Due.is("12: none such", x.drop(0, 3), -1);
        Due.is("12: none such", x.drop(0, -1), -1);
        Due.is("12: none such", x.drop(1, 0), -1);
        Due.is("12: all three", x.of(0, 6), 10 + 60 - 8);
        Due.is("12: the middle one", x.drop(0, 1), 2);
        Due.is("12: is gone", x.of(0, 6), 10 + 40 - 8);
        Due.is("12: the others have moved up", x.drop(0, 1), 1);
        Due.is("12: the first is left", x.of(0, 6), 10 + 10 - 8);
        Due.is("12: the last", x.drop(0, 0), 0);
        Due.is("12: none is left", x.drop(0, 0), -1);
        Due.is("12: none is made", x.of(0, 3), 0);
    }

    private static void plan() {
        RaceByLaps x = Due.plain(2, 3);
        x.car(0, 50, 1, 0, 0, 20);
        x.tyre(0, 0, 0);
        x.tyre(0, 1, 30);
        Due.is("13: a plan", Due.plan(x, "l=2:b1", 0), 1);
        Due.is("13: the tape is empty", x.count(8), 0);
        Due.is("13: not behind lap 0", x.at(0, 1, 0), 60000);
        Due.is("13: lane, change, 34 fuel", x.at(0, 2, 0), 80000 + 15000 + 3000 + 34 * 50 + 20000);
        Due.is("13: the tank was filled up", x.of(0, 6), 48);
        Due.is("13: a stop told instead", x.stop(0, 1, -1, 1), 1);
        Due.is("13: holds in place of b", x.at(0, 2, 0), 80000 + 15000 + 50 + 20000);
        Due.is("13: and is told elsewhere", x.stop(0, 0, -1, 0), 2);
        Due.is("13: beside it", x.of(0, 3), 2);
        Due.is("13: no such car", Due.plan(x, ":.", 1), -100);
        Due.is("13: no such car", Due.plan(x, "x", -1), -100);
        Due.is("13: the tape is empty all the same", x.count(8), 0);
        Due.is("13: a wrong text", Due.plan(x, ":b", 0), -3);
        Due.is("13: the tape is empty all the same", x.count(8), 0);
        Due.is("13: the plan stays", x.why(0, 1), 0);
        Due.is("13: in place of it", Due.plan(x, "l>2:.;l=1:.", 0), 1);
        Due.is("13: the new one", x.why(0, 0), 1);
        Due.is("13: the new one", x.why(0, 1), -1);
    }

    private static void planActs() {
        RaceByLaps x = Due.plain(2, 3);
        Due.aCar(x, 0, 0);
        Due.aCar(x, -400, 1);
        Due.plan(x, ":+", 0);
        Due.is("13: +", x.at(0, 1, 0), 60200);
        Due.plan(x, ":-", 0);
        Due.is("13: -", x.at(0, 1, 0), 59800);
        Due.plan(x, ":+-=", 0);
        Due.is("13: =", x.at(0, 1, 0), 60000);
        x.order(0, 0, 0, 1);
        Due.is("13: = against an order", x.at(0, 1, 0), 40400 + 20000);
        x.order(0, 1, 0, -1);
        Due.is("13: an order heard behind it", x.at(0, 1, 0), 40400 + 19800);
        RaceByLaps y = Due.plain(2, 2);
        Due.aCar(y, 0, 0);
        y.tyre(0, 1, 0);
        y.tyre(0, 2, 0);
        Due.plan(y, ":b1gb2h", 0);
        Due.is("13: of two b the last", y.of(0, 7), 2);
        Due.is("13: one stop", y.of(0, 3), 1);
        Due.plan(y, ":b3", 0);
        Due.is("13: a set it has not", y.of(0, 7), 0);
        Due.is("13: it stops without change", y.at(0, 1, 0), 40000 + 15000 + 100 + 20000);
        Due.plan(y, "0:b1;:.;1:b2", 0);
        Due.is("13: the first line that is true", y.of(0, 3), 0);
        bold();
    }

    private static void bold() {
        RaceByLaps x = Due.plain(2, 2);
        Due.aCar(x, 0, 0);
        Due.aCar(x, -1000, 1);
        x.sector(0, 20000, -1);
        x.sector(1, 20000, -1);
        Due.is("13: held to the end of the lap", x.at(1, 0, 1), 40500);
        x.sector(0, 20000, 200);
        x.flag(0, 40000, 60000, 0);
        x.flag(0, 0, 1000, 0);
        Due.is("13: yellow", x.at(1, 1, 0), 60500);
        Due.plan(x, ":g", 1);
        Due.is("13: g", x.at(1, 1, 0), 59500);
        Due.is("13: an offence", x.of(1, 5), 1);
        Due.plan(x, ":gh", 1);
        Due.is("13: h", x.at(1, 1, 0), 60500);
        Due.is("13: no offence", x.of(1, 5), 0);
    }

    /** Says that a letter has a value when a car ends a lap. */
    private static void letter(RaceByLaps x, int car, int lap, char letter, int due) {
        Due.is("13: plan", Due.plan(x, letter + "=" + due + ":.;:.", car), 1);
        int line = x.why(car, lap);
        if (line != 0) Due.fail("13: letter " + letter + " behind lap " + lap + " is not " + due);
        x.unplan(car);
    }

    private static void planLetters() {
        RaceByLaps x = Due.plain(3, 4);
        x.car(0, 150, 2, 0, 0, 100);
        x.tyre(0, 2, 10);
        x.tyre(0, 3, 20);
        x.stop(0, 1, 1, 5);
        for (int lap = 0; lap < 3; lap++) {
            letter(x, 0, lap, 'l', lap + 1);
            letter(x, 0, lap, 'r', 3 - lap);
            letter(x, 0, lap, 'p', 1);
            letter(x, 0, lap, 'a', 999);
            letter(x, 0, lap, 'f', 100 - 6 * (lap + 1) + (lap > 1 ? 5 : 0));
            letter(x, 0, lap, 'n', 2 * 3 * (3 - lap));
            letter(x, 0, lap, 'o', lap < 2 ? 10 + 3 * (lap + 1) : 23);
            letter(x, 0, lap, 'k', lap < 2 ? 2 : 3);
            letter(x, 0, lap, 't', lap < 2 ? 0 : 1);
            letter(x, 0, lap, 'h', 1);
            letter(x, 0, lap, 'w', 0);
            letter(x, 0, lap, 'v', 0);
            letter(x, 0, lap, 'y', 0);
        }
        x.rain(0, 60000, 44);
        x.rain(1, 60000, 55);
        letter(x, 0, 0, 'w', 44);
        x.flag(2, 60000, 60001, 0);
        letter(x, 0, 0, 'y', 1);
        letter(x, 0, 0, 'v', 0);
        x.flag(2, 59000, 60000, 1);
        letter(x, 0, 0, 'v', 0);
        x.flag(1, 60000, 60001, 1);
        letter(x, 0, 0, 'v', 1);
    }

    private static void planTraffic() {
        RaceByLaps x = Due.plain(2, 2);
        Due.aCar(x, 1000, 0);
        Due.aCar(x, 1000, 1);
        Due.aCar(x, 2000, 2);
        Due.is("13: ends", x.at(0, 0, 1), 42000);
        Due.is("13: ends", x.at(1, 0, 1), 42500);
        Due.is("13: ends", x.at(2, 0, 1), 44600);
        letter(x, 0, 0, 'p', 1);
        letter(x, 0, 0, 'a', 999);
        letter(x, 1, 0, 'p', 2);
        letter(x, 1, 0, 'a', 5);
        letter(x, 2, 0, 'p', 3);
        letter(x, 2, 0, 'a', 21);
        RaceByLaps y = Due.plain(2, 2);
        Due.aCar(y, 2000, 0);
        Due.aCar(y, 1500, 1);
        y.sector(0, 20000, -1);
        y.sector(1, 20000, 0);
        Due.is("13: both at one time", y.at(1, 0, 1), y.at(0, 0, 1));
        letter(y, 0, 0, 'p', 1);
        letter(y, 1, 0, 'p', 2);
        letter(y, 1, 0, 'a', 0);
    }

    private static void planBox() {
        RaceByLaps y = Due.plain(2, 2);
        y.car(0, 200, 1, 0, 0, 100);
        y.tyre(0, 0, 0);
        Due.aCar(y, 0, 0);
        Due.aCar(y, 0, 1);
        y.stop(0, 0, -1, 10);
        Due.is("13: the first is at the box from 55000 to 55500", y.at(0, 1, 0), 75500);
        Due.is("13: the second comes there at 55500", y.at(1, 0, 1), 40500);
        letter(y, 1, 0, 'h', 1);
        letter(y, 2, 0, 'h', 1);
        y.drop(0, 0);
        y.stop(0, 0, -1, 11);
        letter(y, 1, 0, 'h', 0);
        letter(y, 2, 0, 'h', 1);
    }

    /** Each text with the place of its first sign that can't stand there. */
    private static void planWrong() {
        RaceByLaps x = Due.plain(2, 2);
        Due.aCar(x, 0, 0);
        String sixty = "l=1:b0;".repeat(8) + ":..";
        Object[][] texts = {{"", 0}, {"l", 1}, {":", 1}, {"l:", 2}, {":b", 2}, {":b4", 2}, {":bb", 2}, {":.;", 3}, {":;", 1},
            {";:.", 0}, {"s:.", 0}, {"c:.", 0}, {":.:", 2}, {":X", 1}, {":+1", 2}, {"l::", 2}, {"(:.", 1}, {"(l:.", 2},
            {"l):.", 1}, {"l=1=1:.", 3}, {"1234:.", 3}, {"ll:.", 1}, {"l1:.", 1}, {"1l:.", 1}, {":.;l", 4}, {":. ", 2},
            {"!:.", 1}, {"l!:.", 1}, {":.;;:.", 3}, {sixty + "..", 60}, {sixty + "., ", 60}, {sixty + "?.", 59}, {"l" + (char) 186, 1}};
        for (Object[] t : texts) Due.is("13: wrong " + t[0], Due.plan(x, (String) t[0], 0), -1 - (Integer) t[1]);
        Due.is("13: none was taken", x.unplan(0), false);
        Due.is("13: 60 signs", Due.plan(x, sixty + ".", 0), 1);
        Due.is("13: all letters", Due.plan(x, "l+r+p+a+f+n+o+k+w+v+y+t+h:.", 0), 1);
        Due.is("13: 20 lines", Due.plan(x, "0:.;" + ":.;".repeat(18) + ":-", 0), 1);
        Due.is("13: the second of them", x.why(0, 0), 1);
        Due.is("13: a line begun by the last sign", Due.plan(x, ":.;".repeat(20), 0), -61);
    }

    private static void unplan() {
        RaceByLaps x = Due.plain(2, 2);
        Due.aCar(x, 0, 0);
        Due.is("14: it has none", x.unplan(0), false);
        Due.plan(x, ":b0", 0);
        Due.is("14: it does", x.of(0, 3), 1);
        Due.is("14: it had one", x.unplan(0), true);
        Due.is("14: it has none then", x.unplan(0), false);
        Due.is("14: none is done", x.of(0, 3), 0);
        Due.is("14: no such car", x.unplan(1), false);
        Due.is("14: no such car", x.unplan(-1), false);
        Due.plan(x, ":b0", 0);
        x.track(2, 2);
        Due.aCar(x, 0, 0);
        Due.is("14: a new car has none", x.unplan(0), false);
    }

    private static void count() {
        RaceByLaps x = Due.plain(4, 7);
        Due.aCar(x, 0, 0);
        Due.aCar(x, 0, 0);
        Due.aCar(x, 0, 0);
        for (int i = 0; i < 4; i++) x.rain(0, 0, 0);
        for (int i = 0; i < 5; i++) x.flag(0, 0, 0, 0);
        for (int i = 0; i < 6; i++) Due.rule(x, "0:X", 0);
        for (int i = 0; i < 8; i++) x.finding(0, 0, 0, 0);
        x.option(0, 0, 0);
        x.option(2, 0, 0);
        x.sign(0);
        x.result(0);
        int[] counts = {4, 7, 3, 4, 5, 6, 8, 3, 4, 2};
        for (int what = 0; what < 10; what++) Due.is("15: count " + what, x.count(what), counts[what]);
        Due.is("15: another what", x.count(10), -1);
        Due.is("15: another what", x.count(-1), -1);
    }
}

/** Promises 21 to 29: sign, end, rule, finding, seconds, place, sum, within, result. */
public final class BookTest {
    public static void main(String[] args) {
        sign();
        end();
        rule();
        ruleWrong();
        expressions();
        letters();
        finding();
        seconds();
        place();
        sum();
        within();
        result();
        Due.close();
    }

    private static void sign() {
        RaceByLaps x = new RaceByLaps();
        for (int i = 1; i <= 25; i++) Due.is("21: how many", x.sign(i), 4 * i);
        Due.is("21: more than 100", x.sign(0), -1);
        Due.is("21: 100 stay", x.count(8), 100);
        x.end(97);
        Due.is("21: 101", x.sign(0), -1);
        x.end(96);
        Due.is("21: 100", x.sign(-1), 100);
        RaceByLaps y = new RaceByLaps();
        y.sign('1' << 24 | ':' << 16 | '+' << 8 | '7');
        Due.is("21: the highest byte first", y.rule(0), 1);
        y.sign(0xB13A2B37);
        Due.is("21: a sign above 127", y.rule(0), -1);
        y.sign(0x313A2BB7);
        Due.is("21: a sign above 127", y.rule(0), -4);
    }

    private static void end() {
        RaceByLaps x = new RaceByLaps();
        Due.is("22: nothing of nothing", x.end(0), true);
        Due.is("22: not so many", x.end(1), false);
        x.sign(0x313A2B37);
        x.sign(0x37000000);
        Due.is("22: not so many", x.end(9), false);
        Due.is("22: below 0", x.end(-1), false);
        Due.is("22: 8 stay", x.count(8), 8);
        Due.is("22: all", x.end(8), true);
        Due.is("22: the first 5", x.end(5), true);
        Due.is("22: 5", x.count(8), 5);
        Due.is("22: are 1:+77", x.rule(0), 1);
        x.car(0, 9, 1, 0, 0, 9);
        Due.is("22: are 1:+77", x.seconds(0, 0), 77);
    }

    private static void rule() {
        RaceByLaps x = Due.plain(2, 1);
        for (int i = 1; i <= 10; i++) Due.is("23: how many", Due.rule(x, "1:+" + i, i == 1 ? 99 : 0), i);
        Due.is("23: 10", Due.rule(x, "1:+1", 0), -100);
        Due.is("23: the tape is empty", x.count(8), 0);
        Due.is("23: asked first", Due.rule(x, "?", 0), -100);
        Due.is("23: 10 stay", x.count(5), 10);
        Due.aCar(x, 0, 0);
        Due.is("23: from its day on", x.seconds(0, 98), 54);
        Due.is("23: from its day on", x.seconds(0, 99), 55);
        x.track(2, 1);
        Due.is("23: no such day", Due.rule(x, "1:+1", 100), -100);
        Due.is("23: no such day", Due.rule(x, "?", -1), -100);
        Due.is("23: a wrong one", Due.rule(x, "?", 0), -1);
        Due.is("23: the tape is empty", x.count(8), 0);
        Due.is("23: none was told", x.count(5), 0);
    }

    /** Each text with the place of its first sign that can't stand there. */
    private static void ruleWrong() {
        RaceByLaps x = Due.plain(2, 1);
        String fifty = "1+".repeat(25);
        Object[][] texts = {{"", 0}, {"1", 1}, {"1:", 2}, {"1:+", 3}, {":X", 0}, {"1:x", 2}, {"1:-1", 2}, {"1:1", 2},
            {"1:+1+", 4}, {"1:+1234", 6}, {"1:XX", 3}, {"1:X;", 3}, {"1 :X", 1}, {" 1:X", 0}, {"1234:X", 3}, {"1s:X", 1},
            {"s1:X", 1}, {"ss:X", 1}, {"a:X", 0}, {"r:X", 0}, {"S:X", 0}, {"1<2<3:X", 3}, {"1=2+3=4:X", 5}, {"1<2>3:X", 3},
            {"1<2&3<4<5:X", 7}, {"(1<2)<3<4:X", 7}, {"1<(2<3<4):X", 6}, {"1<(2):<", 6}, {"1<(2)<3:X", 5}, {"1<(2|3<4)<5:X", 9}, {"1=((2))*3=4:X", 9}, {"(:X", 1}, {"():X", 1}, {"(1:X", 2}, {"(1", 2},
            {"1):X", 1}, {"((1):X", 4}, {"(1)):X", 3}, {"1(2):X", 1}, {"(1)2:X", 3}, {"(1)s:X", 3}, {"1!:X", 1}, {"1!2:X", 1},
            {"+1:X", 0}, {"1++1:X", 2}, {"1**1:X", 2}, {"1-*1:X", 2}, {"*1:X", 0}, {"1&|1:X", 2}, {"1&:X", 2}, {"!:X", 1}, {"-", 1},
            {"1<:X", 2}, {"1<=2:X", 2}, {fifty + "1+1+1+1:X=", 59}, {fifty + "1+1+1+1:X", -1}, {fifty + "11+1+1+1:X", -1}, {fifty + "111+1+1+1:X", 60},
            {fifty + "1+1+1+1+1+1", 60}, {fifty + "1+1+1+1+1+", 60}, {fifty + "1+1+1+1+1*+", 60}, {"(".repeat(60), 60}, {"(".repeat(61), 60}, {"-".repeat(100), 60}, {"1:X" + "?".repeat(90), 3}};
        for (Object[] t : texts) {
            int place = (Integer) t[1];
            int got = Due.rule(x, (String) t[0], 0);
            if (place >= 0) Due.is("23: wrong " + t[0], got, -1 - place);
            else Due.is("23: right " + t[0], got > 0, true);
        }
    }

    /** What a condition is, shown by a rule that puts a second on a car. */
    private static void truth(String condition, boolean due) {
        RaceByLaps x = Due.plain(2, 1);
        x.car(0, 100, 1, 3, 1, 52);
        x.tyre(0, 0, 0);
        Due.is("23: a rule " + condition, Due.rule(x, condition + ":+1", 0), 1);
        Due.is("4: " + condition, x.seconds(0, 0), due ? 1 : 0);
    }

    private static void expressions() {
        truth("0", false);
        truth("1", true);
        truth("000", false);
        truth("010=10", true);
        truth("999", true);
        truth("1+2*3=7", true);
        truth("2*3+1=7", true);
        truth("(1+2)*3=9", true);
        truth("10-3-2=5", true);
        truth("10-(3-2)=9", true);
        truth("1<2", true);
        truth("2<2", false);
        truth("3>2", true);
        truth("2>2", false);
        truth("2=3", false);
        truth("(1<2)+(3>2)=2", true);
        truth("1|0&0", true);
        truth("0&0|1", true);
        truth("(1|0)&0", false);
        truth("5&7=7", true);
        truth("(5&7)=1", true);
        truth("(2=2)=1", true);
        truth("(2=3)=0", true);
        truth("(5|0)=1", true);
        truth("0|0", false);
        truth("!0=1", true);
        truth("!5=0", true);
        truth("!!5=1", true);
        truth("!1+1", true);
        truth("!(1+1)", false);
        truth("-2+3=1", true);
        truth("-2*-3=6", true);
        truth("5--3=8", true);
        truth("--5=5", true);
        truth("!-1=0", true);
        truth("-!0=0-1", true);
        truth("2<1+2", true);
        truth("1<2&2<3", true);
        truth("1<2|3<2", true);
        truth("1-1|2-2", false);
        truth("512*512*512*16<0", true);
        truth("512*512*512*32=0", true);
        truth("((((((((((1))))))))))", true);
        truth("c=1", true);
        truth("t=3", true);
        truth("f=50", true);
        truth("f-t*c=47&!o", true);
    }

    private static void letters() {
        RaceByLaps x = Due.plain(2, 3);
        x.car(0, 200, 1, 2, 1, 20);
        x.tyre(0, 1, 0);
        x.tyre(0, 3, 0);
        x.tyre(0, 1, 0);
        x.stop(0, 0, 1, 0);
        x.stop(0, 1, 2, 0);
        x.finding(0, 0, 0, 321);
        String[] right = {"s=2", "k=2", "p=0", "l=3", "w=321", "c=1", "o=0", "f=14", "t=2"};
        for (String r : right) Due.rule(x, r + ":+1", 0);
        Due.is("4: letters", x.seconds(0, 0), 9);
        RaceByLaps y = Due.plain(2, 3);
        y.car(0, 200, 1, 0, 0, 4);
        y.tyre(0, 0, 0);
        Due.rule(y, "o=1:+1", 0);
        Due.rule(y, "l=2:+2", 0);
        Due.rule(y, "k=1:+4", 0);
        Due.rule(y, "f=0:+8", 0);
        Due.is("4: of one that is out", y.seconds(0, 0), 15);
        RaceByLaps z = Due.plain(2, 1);
        Due.aCar(z, 1000, 0);
        Due.aCar(z, 0, 0);
        Due.aCar(z, -1000, 0);
        z.order(2, 0, 1, 1);
        z.flag(0, 600, 700, 0);
        Due.rule(z, "p=2:+1", 0);
        Due.is("4: offences", z.seconds(2, 0), 1);
        Due.is("4: offences", z.seconds(1, 0), 0);
    }

    private static void finding() {
        RaceByLaps x = Due.plain(2, 1);
        Due.aCar(x, 0, 0);
        int[][] others = {{-1, 0, 0, 0}, {100, 0, 0, 0}, {0, -1, 0, 0}, {0, 1, 0, 0}, {0, 0, -1, 0}, {0, 0, 2, 0},
            {0, 0, 0, -1}, {0, 0, 0, 1000}, {0, 0, 1, -60001}, {0, 0, 1, 60001}};
        for (int[] o : others) Due.is("24: refused", x.finding(o[0], o[1], o[2], o[3]), -1);
        Due.is("24: none", x.count(6), 0);
        for (int w = 0; w < 9; w++) Due.rule(x, "w=" + (100 + w) + ":+" + w, 0);
        Due.is("24: a weight", x.finding(5, 0, 0, 105), 1);
        Due.is("24: an earlier day", x.finding(3, 0, 0, 103), 2);
        Due.is("24: not yet", x.seconds(0, 2), 0);
        Due.is("24: day 3", x.seconds(0, 3), 3);
        Due.is("24: day 4", x.seconds(0, 4), 3);
        Due.is("24: the greatest day holds", x.seconds(0, 5), 5);
        Due.is("24: again of that day", x.finding(5, 0, 0, 107), 3);
        Due.is("24: the latest", x.seconds(0, 99), 7);
        Due.is("24: edges", x.finding(99, 0, 0, 999), 4);
        Due.is("24: edges", x.finding(0, 0, 0, 0), 5);
        Due.is("24: edges", x.finding(1, 0, 1, 60000), 6);
        Due.is("24: edges", x.finding(2, 0, 1, -60000), 7);
        Due.is("24: a time", x.sum(0, 0), 40000);
        Due.is("24: a time", x.sum(0, 1), 100000);
        Due.is("24: all together", x.sum(0, 2), 40000);
        for (int i = 8; i <= 20; i++) Due.is("24: told", x.finding(9, 0, 1, i), i);
        Due.is("24: 20", x.finding(0, 0, 0, 0), -1);
        Due.is("24: 20 stay", x.count(6), 20);
    }

    private static void seconds() {
        RaceByLaps x = Due.plain(2, 1);
        Due.aCar(x, 0, 0);
        Due.is("25: no rules", x.seconds(0, 0), 0);
        Due.rule(x, "1:+999", 1);
        Due.rule(x, "1:+001", 1);
        Due.rule(x, "0:+5", 1);
        Due.rule(x, "0:X", 1);
        Due.is("25: not yet", x.seconds(0, 0), 0);
        Due.is("25: together", x.seconds(0, 1), 1000);
        Due.rule(x, "1:X", 2);
        Due.rule(x, "1:+3", 2);
        Due.is("25: together", x.seconds(0, 1), 1000);
        Due.is("25: X", x.seconds(0, 2), -2);
        int[][] others = {{-1, 0}, {1, 0}, {0, -1}, {0, 100}};
        for (int[] o : others) Due.is("25: none such", x.seconds(o[0], o[1]), -1);
    }

    private static void place() {
        RaceByLaps x = Due.plain(2, 3);
        for (int k = 0; k < 5; k++) Due.aCar(x, 0, k % 4);
        x.car(0, 100, 1, 0, 0, 100);
        for (int k = 0; k < 5; k++) Due.is("26: in order", x.place(k, 0), k);
        Due.is("26: out", x.place(5, 0), -1);
        Due.rule(x, "t=1:+2", 1);
        Due.rule(x, "t=2:X", 2);
        Due.is("26: ends at 121000", x.sum(4, 0), 122000);
        Due.is("26: with 2 seconds", x.sum(1, 1), 122500);
        int[] day1 = {0, 4, 1, 2, 3};
        for (int k = 0; k < 5; k++) Due.is("26: day 1", x.place(k, 1), day1[k]);
        int[] day2 = {0, 3, -1, 1, 2};
        for (int k = 0; k < 5; k++) Due.is("26: day 2", x.place(k, 2), day2[k]);
        x.set(3, 60000);
        x.stop(0, 0, -1, 0);
        x.stop(0, 1, -1, 0);
        x.finding(0, 0, 1, -60000);
        Due.is("26: fewer laps, though the sum is less", x.place(0, 0), 4);
        Due.is("26: fewer laps", x.of(0, 2), 4);
        Due.is("26: the sum is less", x.sum(0, 0) < x.sum(1, 0), true);
        int[][] others = {{-1, 0}, {6, 0}, {0, -1}, {0, 100}};
        for (int[] o : others) Due.is("26: none such", x.place(o[0], o[1]), -1);
    }

    private static void sum() {
        RaceByLaps x = Due.plain(2, 1);
        Due.aCar(x, 0, 0);
        x.car(0, 100, 1, 0, 0, 100);
        Due.rule(x, "1:+7", 1);
        Due.rule(x, "1:X", 9);
        x.finding(2, 0, 1, -400);
        x.finding(3, 0, 1, 150);
        Due.is("27: the time", x.sum(0, 0), 40000);
        Due.is("27: seconds", x.sum(0, 1), 47000);
        Due.is("27: found", x.sum(0, 2), 46600);
        Due.is("27: found", x.sum(0, 8), 46750);
        Due.raises("27: X", () -> x.sum(0, 9));
        Due.raises("27: out", () -> x.sum(1, 0));
        Due.raises("27: no such car", () -> x.sum(2, 0));
        Due.raises("27: no such car", () -> x.sum(-1, 0));
        Due.raises("27: no such day", () -> x.sum(0, -1));
        Due.raises("27: no such day", () -> x.sum(0, 100));
    }

    private static void within() {
        RaceByLaps x = Due.plain(2, 1);
        int[] classes = {0, 1, 1, 0, 1};
        for (int k = 0; k < 5; k++) {
            x.car(0, 100, 1, 0, classes[k], 100);
            if (k != 4) x.tyre(k, 0, 0);
        }
        int[] due = {0, 0, 1, 1, -1};
        for (int k = 0; k < 5; k++) Due.is("28: within", x.within(k, 0), due[k]);
        x.finding(1, 1, 1, 60000);
        Due.is("28: of that day", x.within(1, 1), 1);
        Due.is("28: of that day", x.within(2, 1), 0);
        Due.is("28: among all", x.place(1, 1), 3);
        Due.rule(x, "c:X", 2);
        Due.is("28: X", x.within(1, 2), -1);
        int[][] others = {{-1, 0}, {5, 0}, {0, -1}, {0, 100}};
        for (int[] o : others) Due.is("28: none such", x.within(o[0], o[1]), -1);
    }

    private static void result() {
        RaceByLaps x = Due.plain(2, 1);
        for (int k = 0; k < 4; k++) Due.aCar(x, 0, k);
        x.finding(1, 0, 1, 60000);
        Due.rule(x, "t=2:X", 1);
        Due.is("29: day 0", x.result(0), 4);
        for (int i = 0; i < 4; i++) Due.is("29: row", x.row(i), i);
        Due.is("29: numbers of the row", x.count(7), 4);
        Due.is("29: day 1", x.result(1), 3);
        int[] due = {1, 3, 0};
        for (int i = 0; i < 3; i++) Due.is("29: row", x.row(i), due[i]);
        Due.raises("41: none such", () -> x.row(3));
        Due.raises("41: none such", () -> x.row(-1));
        Due.raises("41: none such", () -> x.row(Integer.MAX_VALUE));
        Due.is("29: no such day", x.result(100), -1);
        Due.is("29: no such day", x.result(-1), -1);
        Due.is("29: the row stays", x.count(7), 3);
        Due.is("41: the row stays", x.row(0), 1);
        Due.rule(x, "1:X", 5);
        Due.is("29: none", x.result(5), 0);
        Due.is("29: an empty row", x.count(7), 0);
        Due.raises("41: none such", () -> x.row(0));
    }
}

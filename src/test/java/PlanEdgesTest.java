/** The PLAN of Terms 2 and promises 13, 14 and 40: each sentence that names a boundary case. */
public final class PlanEdgesTest {
    public static void main(String[] args) {
        whenAsked();
        firstLine();
        noLine();
        lastLine();
        boxes();
        filledUp();
        stopInPlace();
        modes();
        actsOfTheLineBefore();
        linesOfThePlanBefore();
        fewerLaps();
        fuelAndToGo();
        setOn();
        place();
        placeOfEqualOnes();
        behind();
        farBehind();
        weather();
        flags();
        boxFree();
        boxOfTheTeam();
        planInPlace();
        noCar();
        unplan();
        why();
        Due.close();
    }

    /** Says that a condition is true, or not, when a car ends a lap. */
    private static void says(String what, RaceByLaps x, int car, int lap, String condition, boolean due) {
        Due.is(what + ": " + condition + " is a plan", Due.plan(x, condition + ":.;:.", car), 1);
        Due.is(what + ": " + condition, x.why(car, lap), due ? 0 : 1);
        x.unplan(car);
    }

    /** "each time that the CAR ends a LAP and is not FINISHED". */
    private static void whenAsked() {
        RaceByLaps x = Due.plain(2, 12);
        Due.aCar(x, 0, 0);
        Due.plan(x, ":b0", 0);
        for (int lap = 0; lap < 11; lap++) Due.is("40: behind lap " + lap, x.why(0, lap), 0);
        Due.is("40: not behind the last", x.why(0, 11), -1);
        Due.is("13: eleven stops", x.of(0, 3), 11);
        RaceByLaps y = Due.plain(2, 1);
        Due.aCar(y, 0, 0);
        Due.plan(y, ":b0", 0);
        Due.is("40: one lap: never", y.why(0, 0), -1);
        Due.is("13: no stop", y.of(0, 3), 0);
        RaceByLaps z = Due.plain(2, 3);
        Due.aCar(z, 0, 0);
        Due.aCar(z, 0, 1);
        Due.plan(z, ":b0", 1);
        z.set(3, 40000);
        Due.is("40: behind the first", z.why(1, 0), 0);
        Due.is("40: finished behind the second, with another one's last", z.why(1, 1), -1);
        Due.is("13: one stop", z.of(1, 3), 1);
    }

    /** "the first LINE whose CONDITION is true, or that has none, is done". */
    private static void firstLine() {
        String[] texts = {":+;:-", "1:+;:-", "0:-;:+", "0:-;1:+;:-", "0:-;0:-;2:+;1:-", "!l:-;l:+;:-", "r>9:-;:+;1:-"};
        int[] lines = {0, 0, 1, 1, 2, 1, 1};
        for (int i = 0; i < texts.length; i++) {
            RaceByLaps x = Due.plain(2, 2);
            Due.aCar(x, 0, 0);
            Due.is("13: " + texts[i], Due.plan(x, texts[i], 0), 1);
            Due.is("13: " + texts[i], x.at(0, 1, 0), 60200);
            Due.is("40: " + texts[i], x.why(0, 0), lines[i]);
        }
    }

    /** None is true: nothing is done. */
    private static void noLine() {
        RaceByLaps x = Due.plain(2, 2);
        Due.aCar(x, 0, 0);
        Due.plan(x, "0:b0+;l>1:b0-g", 0);
        Due.is("40: none", x.why(0, 0), -1);
        Due.is("13: no stop, no mode", x.at(0, 1, 0), 60000);
        x.stop(0, 0, -1, 0);
        Due.is("13: the stop told is made", x.at(0, 1, 0), 75000);
        Due.is("40: none", x.why(0, 0), -1);
    }

    /** Sixty signs hold twenty lines; of those with a condition fifteen. */
    private static void lastLine() {
        RaceByLaps x = Due.plain(2, 3);
        Due.aCar(x, 0, 0);
        Due.is("13: 58 signs", Due.plan(x, "0:.;".repeat(14) + ":+", 0), 1);
        Due.is("40: the fifteenth line", x.why(0, 0), 14);
        Due.is("13: is done", x.at(0, 1, 0), 60200);
        Due.is("13: 60 signs", Due.plan(x, "0:.;".repeat(14) + "l:-h", 0), 1);
        Due.is("40: the fifteenth line", x.why(0, 0), 14);
        Due.is("13: is done", x.at(0, 1, 0), 59800);
        Due.is("13: 59 signs", Due.plan(x, ":.;".repeat(19) + ":-", 0), 1);
        Due.is("40: the first", x.why(0, 1), 0);
        Due.is("13: 60 signs", Due.plan(x, ":.;".repeat(19) + ":--", 0), 1);
        Due.is("13: 61 signs", Due.plan(x, ":.;".repeat(19) + ":---", 0), -61);
        Due.is("40: the plan stays", x.why(0, 0), 0);
        Due.is("13: one condition of 58 signs", Due.plan(x, "1+".repeat(28) + "11:+", 0), 1);
        Due.is("13: is true", x.at(0, 1, 0), 60200);
        Due.is("13: one of 57 acts", Due.plan(x, "0:" + "+".repeat(58), 0), 1);
        Due.is("13: is not true", x.at(0, 1, 0), 60000);
        Due.is("13: the last act of many holds", Due.plan(x, ":" + "+-".repeat(29) + "+", 0), 1);
        Due.is("13: the last act of many holds", x.at(0, 1, 0), 60200);
    }

    /** "b and a digit 0 .. 3", "of two b the last". */
    private static void boxes() {
        RaceByLaps x = Due.plain(2, 2);
        Due.aCar(x, 0, 0);
        for (int set = 1; set < 4; set++) x.tyre(0, set, 10 * set);
        for (int set = 0; set < 4; set++) {
            Due.is("13: b" + set, Due.plan(x, ":b" + set, 0), 1);
            Due.is("13: it is on", x.of(0, 7), set);
            Due.is("13: with a change, or none", x.at(0, 1, 0), (set == 0 ? 75000 : 78000) + 100);
            for (int last = 0; last < 4; last++) {
                Due.is("13: of two", Due.plan(x, ":b" + set + ".b" + last, 0), 1);
                Due.is("13: the last", x.of(0, 7), last);
                Due.is("13: one stop", x.of(0, 3), 1);
            }
        }
        Due.is("13: no b4", Due.plan(x, ":b4", 0), -3);
        Due.is("13: no b/", Due.plan(x, ":b/", 0), -3);
        RaceByLaps y = Due.plain(2, 2);
        Due.aCar(y, 0, 0);
        y.tyre(0, 1, 0);
        Due.plan(y, ":b2", 0);
        Due.is("13: a set that it has not: a stop all the same", y.of(0, 3), 1);
        Due.is("13: no change", y.of(0, 7), 0);
        y.tyre(0, 2, 0);
        Due.is("13: now it has it", y.of(0, 7), 2);
    }

    /** "its TANK filled up": from nothing to the largest, and when it is full. */
    private static void filledUp() {
        int[] tanks = {1, 2, 3, 199, 200};
        for (int tank : tanks) {
            RaceByLaps x = Due.plain(2, 2);
            x.car(0, tank, 1, 0, 0, Math.min(2, tank));
            x.tyre(0, 0, 0);
            x.set(2, 0);
            if (tank == 1) x.order(0, 0, 0, 1);
            Due.plan(x, ":b0=", 0);
            int left = tank == 1 ? 1 : 0;
            Due.is("13: full " + tank, x.at(0, 1, 0), 75000 + 50 * (tank - left));
            Due.is("13: and burnt", x.of(0, 6), Math.max(0, tank - 2));
        }
        RaceByLaps x = Due.plain(2, 2);
        x.car(0, 200, 1, 0, 0, 200);
        x.tyre(0, 0, 0);
        x.order(0, 0, 0, 1);
        Due.plan(x, ":b0", 0);
        Due.is("13: full already", x.at(0, 1, 0), 40400 + 15000 + 20200);
    }

    /** "Where a STOP is told behind that LAP, that holds in place of b." */
    private static void stopInPlace() {
        RaceByLaps x = Due.plain(2, 3);
        x.car(0, 200, 1, 0, 0, 100);
        for (int i = 0; i < 3; i++) x.tyre(0, i, 0);
        Due.plan(x, ":b1-", 0);
        x.stop(0, 0, 2, 1);
        Due.is("13: the stop's set and fuel, the plan's mode", x.at(0, 1, 0), 40000 + 15000 + 3000 + 50 + 19800);
        Due.is("13: behind the next lap b holds", x.of(0, 7), 1);
        Due.is("13: two stops", x.of(0, 3), 2);
        x.stop(0, 1, -1, 0);
        Due.is("13: a stop without a change holds too", x.of(0, 7), 2);
        Due.is("40: the line is done all the same", x.why(0, 1), 0);
        x.drop(0, 0);
        Due.is("13: where none is told any more b holds", x.of(0, 7), 1);
    }

    /** "+ = - (MODE 1, 0, -1 from now on), g h (BOLD 1, 0), . (nothing)": of each the last act. */
    private static void modes() {
        String[] acts = {"+", "=", "-", ".", "+=", "-=", "=-", "=+", "+-", "-+", "+.", "-.", ".-", "g", "h", "gh", "+gh"};
        int[] pace = {200, 0, -200, 0, 0, 0, -200, 200, -200, 200, 200, -200, -200, 0, 0, 0, 200};
        for (int i = 0; i < acts.length; i++) {
            RaceByLaps x = Due.plain(2, 2);
            Due.aCar(x, 0, 0);
            Due.is("13: acts " + acts[i], Due.plan(x, ":" + acts[i], 0), 1);
            Due.is("13: from now on " + acts[i], x.at(0, 1, 0), 60000 + pace[i]);
            Due.is("13: not before " + acts[i], x.at(0, 0, 1), 40000);
            Due.is("13: it stays " + acts[i], x.at(0, 1, 1), 80000 + 2 * pace[i]);
        }
    }

    /** A plan told in place of another one leaves nothing of its acts, nor does a wrong text. */
    private static void actsOfTheLineBefore() {
        RaceByLaps x = Due.plain(2, 2);
        Due.aCar(x, 0, 0);
        Due.aCar(x, -1000, 1);
        x.tyre(1, 0, 0);
        x.flag(-1, 0, 1000000, 0);
        String[] before = {":+gb1", ":-gb1;:+", ":+gb1?", ":-gb1;", "0:-gb1;:+g"};
        for (String text : before) {
            for (int time = 0; time < 3; time++) {
                if (time < 2) Due.plan(x, text, 1);
                Due.is("13: nothing", Due.plan(x, ":.;:.", 1), 1);
                Due.is("13: of " + text, x.at(1, 1, 0), 60500);
                Due.is("13: no stop of " + text, x.of(1, 3), 0);
                Due.is("13: no offence of " + text, x.of(1, 5), 0);
            }
        }
    }

    /** Nor does one with fewer lines leave the others: where none of its own is true, none is done. */
    private static void linesOfThePlanBefore() {
        RaceByLaps x = Due.plain(2, 2);
        Due.aCar(x, 0, 0);
        String[] before = {"0:.;:-b0", "0:.;1:-;:-", "0:.;!0:-b0", ":-b0;:-", "0:.;0:.;:-b0;:-"};
        String[] after = {"0:+", "0:+;0:+", "!1:+b0"};
        for (String text : before) {
            for (String none : after) {
                for (int time = 0; time < 2; time++) {
                    Due.is("13: " + text, Due.plan(x, text, 0), 1);
                    for (int again = 0; again <= time; again++) Due.is("13: " + none, Due.plan(x, none, 0), 1);
                    Due.is("40: none of " + none + " behind " + text, x.why(0, 0), -1);
                    Due.is("13: nothing of " + text, x.at(0, 1, 0), 60000);
                }
            }
        }
    }

    /** "l LAPS ended, r LAPS to go". */
    private static void fewerLaps() {
        RaceByLaps x = Due.plain(2, 12);
        Due.aCar(x, 0, 0);
        for (int lap = 0; lap < 11; lap++) {
            says("13", x, 0, lap, "l=" + (lap + 1) + "&r=" + (11 - lap), true);
            says("13", x, 0, lap, "l<" + (lap + 1) + "|r<" + (11 - lap), false);
        }
    }

    /** "f FUEL, n BURN times SECTORS to go": BURN as told, whatever the MODE. */
    private static void fuelAndToGo() {
        RaceByLaps x = Due.plain(5, 3);
        x.car(0, 200, 3, 0, 0, 20);
        x.tyre(0, 0, 0);
        says("13", x, 0, 0, "f=5&n=30", true);
        x.order(0, 0, 0, -1);
        says("13: burns 4", x, 0, 0, "f=0&n=30", true);
        says("13: nothing is left", x, 0, 0, "f", false);
        x.order(0, 0, 0, 1);
        says("13: burns 2", x, 0, 0, "f=10&n=30", true);
        says("13", x, 0, 1, "f=0&n=15", true);
        RaceByLaps y = Due.plain(5, 12);
        y.car(0, 200, 9, 0, 0, 200);
        y.tyre(0, 0, 0);
        says("13: the most", y, 0, 0, "f=155&n=495", true);
    }

    /** "o AGE and k KIND of the SET on", "t STOPS made". */
    private static void setOn() {
        RaceByLaps x = Due.plain(2, 7);
        Due.aCar(x, 0, 0);
        x.tyre(0, 3, 100);
        for (int i = 0; i < 5; i++) x.stop(0, i, i % 2 == 0 ? 1 : 0, 0);
        for (int lap = 0; lap < 6; lap++) {
            int age = lap % 2 == 0 ? lap + 2 : 100 + lap + 1;
            says("13: set on", x, 0, lap, "k=" + (lap % 2 == 0 ? 0 : 3) + "&o=" + age + "&t=" + lap, true);
        }
        x.order(0, 0, 0, -1);
        says("13: two a sector", x, 0, 0, "o=4", true);
        x.flag(0, 0, 1, 1);
        says("13: none where it is slow", x, 0, 0, "o=2", true);
    }

    /** "p 1 and how many others ended that LAP at or ahead of it": six of them. */
    private static void place() {
        RaceByLaps x = Due.plain(2, 2);
        for (int k = 0; k < 6; k++) Due.aCar(x, 0, k % 4);
        for (int k = 0; k < 6; k++) {
            says("13: of six", x, k, 0, "p=" + (k + 1), true);
            says("13: 500 behind", x, k, 0, k == 0 ? "a=999" : "a=5", true);
        }
        RaceByLaps y = Due.plain(2, 2);
        Due.aCar(y, 0, 0);
        y.car(0, 9, 1, 1, 0, 1);
        y.tyre(1, 0, 0);
        y.car(0, 9, 1, 2, 0, 9);
        Due.aCar(y, 0, 3);
        says("13: neither one that is out nor one that does not start", y, 3, 0, "p=2", true);
    }

    /** "at or ahead of it (of those that went on ahead of it)". */
    private static void placeOfEqualOnes() {
        String[] second = {"p=1&a=999", "p=2&a=0", "p=2&a=5"};
        int[] ends = {43999, 44000, 44500};
        for (int i = 0; i < 3; i++) {
            RaceByLaps x = Due.plain(2, 2);
            x.sector(0, 20000, -1);
            x.sector(1, 20000, 0);
            Due.aCar(x, 2000, 0);
            Due.aCar(x, 1499 + i, 1);
            Due.is("13: the one that went on ahead", x.at(0, 0, 1), 44000);
            Due.is("13: the one that went on later", x.at(1, 0, 1), ends[i]);
            says("13: it went on later", x, 1, 0, second[i], true);
            says("13: none went on ahead of it", x, 0, 0, "p=1&a=999", true);
        }
    }

    /** "a how much it is behind the latest one of these (by 100, cut ..)". */
    private static void behind() {
        int[] gaps = {100, 101, 199, 200, 999, 1000, 1999, 2000};
        for (int gap : gaps) {
            RaceByLaps x = Due.plain(2, 2);
            x.set(0, gap);
            x.set(6, 0);
            Due.aCar(x, 0, 0);
            Due.aCar(x, 0, 1);
            Due.is("13: behind", x.at(1, 0, 1), 40000 + gap);
            says("13: " + gap, x, 1, 0, "a=" + gap / 100, true);
        }
    }

    /** "999 without": one that is further behind than that is told so. */
    private static void farBehind() {
        int[] lanes = {48950, 49700, 49749, 60000};
        int[] due = {984, 999, 999, 1205};
        for (int i = 0; i < lanes.length; i++) {
            RaceByLaps x = Due.plain(5, 5);
            Due.aCar(x, 0, 0);
            Due.aCar(x, 0, 1);
            x.set(3, lanes[i]);
            x.stop(1, 0, -1, 0);
            x.stop(1, 1, -1, 0);
            Due.is("13: behind", x.at(1, 2, 4) - x.at(0, 2, 4), 500 + 2 * lanes[i]);
            says("13: lane " + lanes[i], x, 1, 2, "a=500+" + (due[i] - 500), true);
        }
    }

    /** "w WET of the first SECTOR then". */
    private static void weather() {
        RaceByLaps x = Due.plain(2, 2);
        Due.aCar(x, 0, 0);
        says("13: at first", x, 0, 0, "w", false);
        x.rain(0, 40001, 7);
        x.rain(1, 40000, 8);
        says("13: not yet, not of the second sector", x, 0, 0, "w", false);
        x.rain(0, 40000, 100);
        says("13: then", x, 0, 0, "w=100", true);
        x.rain(0, 40000, 0);
        says("13: of equal ones the one told last", x, 0, 0, "w", false);
    }

    /** "v 1 if it is SLOW then, y 1 if there is YELLOW anywhere then". */
    private static void flags() {
        int[][] spans = {{39999, 40000}, {40000, 40000}, {40000, 40001}, {40001, 40002}, {39999, 40002}, {0, Integer.MAX_VALUE}};
        boolean[] then = {false, false, true, false, true, true};
        for (int i = 0; i < spans.length; i++) {
            for (int over = -1; over < 3; over++) {
                RaceByLaps x = Due.plain(3, 2);
                x.sector(2, 5000, 0);
                x.sector(1, 15000, 0);
                x.set(6, 0);
                Due.aCar(x, 0, 0);
                x.flag(over, spans[i][0], spans[i][1], 0);
                says("13: yellow over " + over, x, 0, 0, "y=1&v=0", then[i]);
            }
        }
        for (int i = 0; i < spans.length - 1; i++) {
            RaceByLaps x = Due.plain(2, 2);
            Due.aCar(x, 0, 0);
            x.flag(1, spans[i][0], spans[i][1], 1);
            says("13: slow", x, 0, 0, "v=1&y=0", then[i]);
        }
    }

    /** "h 1 if the BOX of its TEAM would be free at its coming": at the very time it becomes free it is. */
    private static void boxFree() {
        for (int fill = 49; fill <= 51; fill++) {
            RaceByLaps x = Due.plain(2, 2);
            x.set(5, fill);
            x.car(0, 200, 1, 0, 0, 100);
            x.tyre(0, 0, 0);
            Due.aCar(x, 0, 0);
            x.stop(0, 0, -1, 10);
            says("13: free at " + (55000 + 10 * fill) + ", comes at 55500", x, 1, 0, "h=1", fill <= 50);
            x.stop(1, 0, -1, 0);
            Due.is("19: waits", x.waited(1), fill <= 50 ? 0 : 10);
        }
        RaceByLaps x = Due.plain(2, 2);
        Due.aCar(x, 0, 0);
        x.set(3, 0);
        says("13: free from the start on", x, 0, 0, "h", true);
    }

    private static void boxOfTheTeam() {
        for (int team = 0; team < 4; team++) {
            RaceByLaps x = Due.plain(2, 2);
            x.car(0, 200, 1, 3, 0, 50);
            x.tyre(0, 0, 0);
            x.stop(0, 0, -1, 100);
            Due.aCar(x, 0, team);
            says("13: team 3 is at its box", x, 1, 0, "h", team != 3);
        }
    }

    /** "is the PLAN of a CAR (in place of the one that it had)": 1; a wrong one leaves that. */
    private static void planInPlace() {
        RaceByLaps x = Due.plain(2, 2);
        Due.aCar(x, 0, 0);
        Due.aCar(x, 0, 1);
        Due.is("13: an empty text", x.plan(0), -1);
        Due.is("14: is none", x.unplan(0), false);
        Due.is("13: the first", Due.plan(x, ":+", 0), 1);
        Due.is("13: in place of it", Due.plan(x, "0:.;:-", 0), 1);
        Due.is("13: the second", x.at(0, 1, 0), 59800);
        Due.is("13: another car has none", x.why(1, 0), -1);
        for (String wrong : new String[] {"", ":", ":+;", "+", ":b", "x:."}) {
            Due.is("13: wrong " + wrong, Due.plan(x, wrong, 0) < 0, true);
            Due.is("13: the tape is empty", x.count(8), 0);
            Due.is("13: the second stays", x.at(0, 1, 0), 59800);
            Due.is("40: the second stays", x.why(0, 0), 1);
        }
        Due.is("13: another car's", Due.plan(x, ":.", 1), 1);
        Due.is("13: the second stays", x.why(0, 0), 1);
        Due.is("14: had one", x.unplan(0), true);
        Due.is("14: the other one keeps its", x.why(1, 0), 0);
    }

    /** "-100: no such CAR (asked first; THE TAPE is empty then, too)". */
    private static void noCar() {
        RaceByLaps x = Due.plain(2, 2);
        Due.is("13: no cars", Due.plan(x, ":.", 0), -100);
        for (int k = 0; k < 6; k++) Due.aCar(x, 0, 0);
        for (int car : new int[] {-1, 6, Integer.MIN_VALUE, Integer.MAX_VALUE}) {
            for (String text : new String[] {":.", "", "?", ":.".repeat(40)}) {
                Due.is("13: no such car", Due.plan(x, text, car), -100);
                Due.is("13: the tape is empty", x.count(8), 0);
            }
            Due.is("14: no such car", x.unplan(car), false);
        }
        Due.is("13: the last car", Due.plan(x, ":.", 5), 1);
        Due.is("14: the last car", x.unplan(5), true);
    }

    /** "A CAR has no PLAN then: whether it had one". */
    private static void unplan() {
        RaceByLaps x = Due.plain(2, 2);
        Due.aCar(x, 0, 0);
        Due.is("14: none", x.unplan(0), false);
        for (int time = 0; time < 2; time++) {
            Due.plan(x, ":+", 0);
            Due.is("14: it is done", x.at(0, 1, 0), 60200);
            Due.is("14: one", x.unplan(0), true);
            Due.is("14: none then", x.unplan(0), false);
            Due.is("14: it is not done", x.at(0, 1, 0), 60000);
            Due.is("40: no plan", x.why(0, 0), -1);
        }
    }

    /** "NONE: none, it has no PLAN, it was not asked, none such". */
    private static void why() {
        RaceByLaps x = Due.plain(2, 3);
        x.car(0, 9, 1, 0, 0, 4);
        Due.plan(x, "l=2:.", 0);
        Due.is("40: it does not start", x.why(0, 0), -1);
        x.tyre(0, 0, 0);
        Due.is("40: none is true", x.why(0, 0), -1);
        Due.is("40: the first", x.why(0, 1), 0);
        Due.is("40: out behind that", x.why(0, 2), -1);
        Due.is("40: no lap", x.why(0, -1), -1);
        Due.is("40: no lap", x.why(0, 3), -1);
        Due.is("40: no lap", x.why(0, Integer.MAX_VALUE), -1);
        Due.is("40: no car", x.why(1, 1), -1);
        Due.is("40: no car", x.why(-1, 1), -1);
        x.unplan(0);
        Due.is("40: no plan", x.why(0, 1), -1);
    }
}

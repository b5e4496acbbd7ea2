/** The texts of Terms 4 (and of plans, Terms 2) and promises 13, 21, 22 and 23: each sentence that names a boundary case. */
public final class TextEdgesTest {
    private static final String DIGITS = "0123456789";
    private static final String OPERATORS = "|&<>=+-*";
    private static final String NO_COMPARING = "|&+-*";
    private static final String AHEAD = "(!-";
    private static final String RULE_LETTERS = "skplwcoft";
    private static final String PLAN_LETTERS = "lrpafnokwvyth";
    private static final String ACTS = "b+=-gh.";

    public static void main(String[] args) {
        signsOfRules();
        signsOfPlans();
        wherePlansEnd();
        whereRulesEnd();
        sixtySigns();
        wrongAheadOfSixty();
        deepest();
        numbers();
        seconds();
        comparing();
        binding();
        fromTheLeft();
        truth();
        aheadOfAThing();
        asInts();
        lettersOfRules();
        fullTape();
        ends();
        signsOfAByte();
        tapeOfTwo();
        behindWrongOnes();
        Due.close();
    }

    /** For each of the 256 signs: whether it can stand behind the signs so far. */
    private static void next(boolean plan, String soFar, String right) {
        for (int sign = 0; sign < 256; sign++) {
            RaceByLaps x = Due.plain(2, 1);
            Due.aCar(x, 0, 0);
            Due.tape(x, soFar + (char) sign);
            int got = plan ? x.plan(0) : x.rule(0);
            boolean can = right.indexOf((char) sign) >= 0;
            boolean stood = got > 0 || got == -1 - (soFar.length() + 1);
            if (can != stood || !can && got != -1 - soFar.length()) {
                Due.fail((plan ? "13" : "23") + ": sign " + sign + " behind " + soFar + " answered " + got);
            }
        }
    }

    private static void signsOfRules() {
        String operand = DIGITS + RULE_LETTERS + AHEAD;
        for (String soFar : new String[] {"", "(", "((", "!", "-", "!-", "1|", "1&", "1<", "1=", "1>", "1+", "1-", "1*", "1--", "s*(", "1&!("}) next(false, soFar, operand);
        for (String soFar : new String[] {"1", "12", "s+1", "!1", "1<2|3", "1<2&3", "00|1"}) {
            next(false, soFar, DIGITS + OPERATORS + ":");
        }
        for (String soFar : new String[] {"123", "s", "t", "-w", "(1)", "(1<2)", "((1<2)>3)", "1+123"}) next(false, soFar, OPERATORS + ":");
        for (String soFar : new String[] {"1<2", "1=2+3", "1>2*3", "1<(2<3)+4"}) next(false, soFar, DIGITS + NO_COMPARING + ":");
        for (String soFar : new String[] {"1<s", "1=(2)", "1>2+(3=4)", "1<(2<3)"}) next(false, soFar, NO_COMPARING + ":");
        for (String soFar : new String[] {"(1", "1<(2", "1<((2<3)|4"}) next(false, soFar, DIGITS + OPERATORS + ")");
        for (String soFar : new String[] {"(s", "((1)", "1=(w"}) next(false, soFar, OPERATORS + ")");
        for (String soFar : new String[] {"(1<2", "1<(2<3"}) next(false, soFar, DIGITS + NO_COMPARING + ")");
        next(false, "1:", "X+");
        next(false, "s<1&!o:", "X+");
        next(false, "1:X", "");
        next(false, "1:+", DIGITS);
        next(false, "1:+1", DIGITS);
        next(false, "1:+00", DIGITS);
        next(false, "1:+123", "");
    }

    private static void signsOfPlans() {
        String operand = DIGITS + PLAN_LETTERS + AHEAD;
        for (String soFar : new String[] {"", ":.;", ":b0;", "l:+;", "1<2:g;"}) next(true, soFar, operand + ":");
        for (String soFar : new String[] {"(", "!", "-", "l&", "l<", ":.;!", ":.;1-"}) next(true, soFar, operand);
        for (String soFar : new String[] {":", "l:", "1=2:", ":.;:"}) next(true, soFar, ACTS);
        for (String soFar : new String[] {":.", ":b0", ":b3", ":+", ":=", ":-", ":g", ":h", "l:gh", ":.;1:b1."}) next(true, soFar, ACTS + ";");
        for (String soFar : new String[] {":b", "l:gb", ":.b", ":b0b"}) next(true, soFar, "0123");
        next(true, "l", OPERATORS + ":");
        next(true, "12", DIGITS + OPERATORS + ":");
        next(true, "1<2", DIGITS + NO_COMPARING + ":");
        next(true, "1<2:.;1", DIGITS + OPERATORS + ":");
        next(true, ":.;123", OPERATORS + ":");
        next(true, "(l", OPERATORS + ")");
    }

    /** "(its end, if it ends too early ..)". */
    private static void wherePlansEnd() {
        for (String text : new String[] {"", "l", "12", "!", "(", "(l", "(l)", "l<", ":", "l:", ":b", ":.;", ":.;l", ":.;l:", ":.;:b", ":b0.;"}) {
            RaceByLaps x = Due.plain(2, 2);
            Due.aCar(x, 0, 0);
            Due.is("13: ends too early " + text, Due.plan(x, text, 0), -1 - text.length());
        }
        for (String text : new String[] {":.", ":b0", "l:.", ":.;:.", "l:gh;r:b0+"}) {
            RaceByLaps x = Due.plain(2, 2);
            Due.aCar(x, 0, 0);
            Due.is("13: whole " + text, Due.plan(x, text, 0), 1);
        }
    }

    private static void whereRulesEnd() {
        RaceByLaps x = new RaceByLaps();
        for (String text : new String[] {"", "s", "12", "!", "(", "(s", "(s)", "s<", "s<1", "1:", "1:+", "s=(1):", "s=(1):+"}) {
            Due.is("23: ends too early " + text, Due.rule(x, text, 0), -1 - text.length());
        }
        int told = 0;
        for (String text : new String[] {"1:X", "1:+0", "1:+00", "1:+000", "s:+9", "(s):+99"}) Due.is("23: whole " + text, Due.rule(x, text, 0), ++told);
    }

    /** "at most 60 signs": 59, 60 and 61 of them, rule and plan, ended or going on. */
    private static void sixtySigns() {
        RaceByLaps x = Due.plain(2, 2);
        Due.aCar(x, 0, 0);
        String ones = "1+".repeat(27);
        Due.is("23: 59 signs", Due.rule(x, ones + "1+1:X", 0), 1);
        Due.is("23: 60 signs", Due.rule(x, ones + "1+11:X", 0), 2);
        Due.is("23: 60 signs, seconds", Due.rule(x, ones + "11:+12", 0), 3);
        Due.is("23: 61 signs, X", Due.rule(x, ones + "1+111:X", 0), -61);
        Due.is("23: 61 signs, one more digit", Due.rule(x, ones + "11:+123", 0), -61);
        Due.is("23: 61 signs, whole at 60, then no sign of any", Due.rule(x, ones + "1+11:X?", 0), -61);
        Due.is("23: 60 signs, not whole", Due.rule(x, ones + "1+11+1", 0), -61);
        Due.is("23: 100 signs", Due.rule(x, "1+".repeat(49) + "1+", 0), -61);
        Due.is("23: three were told", x.count(5), 3);
        Due.is("23: 54 signs and 1", x.seconds(0, 0), -2);
        Due.is("13: 59 signs", Due.plan(x, ":.;".repeat(19) + ":.", 0), 1);
        Due.is("13: 60 signs", Due.plan(x, ":.;".repeat(19) + ":..", 0), 1);
        Due.is("13: 61 signs", Due.plan(x, ":.;".repeat(19) + ":...", 0), -61);
        Due.is("13: 60 signs, not whole", Due.plan(x, ":.;".repeat(19) + ":.;", 0), -61);
        Due.is("13: 60 signs, not whole", Due.plan(x, ":.;".repeat(19) + ":b", 0), -60);
        Due.is("13: 60 signs, not whole", Due.plan(x, ":.;".repeat(19) + ":.b", 0), -61);
        Due.is("13: 61 signs, whole then", Due.plan(x, ":.;".repeat(19) + ":.b0", 0), -61);
        Due.is("13: 100 signs", Due.plan(x, ":" + ".".repeat(99), 0), -61);
    }

    /** "the first sign that can't stand there", though the text be too long. */
    private static void wrongAheadOfSixty() {
        for (int place = 0; place < 100; place++) {
            RaceByLaps x = Due.plain(2, 2);
            Due.aCar(x, 0, 0);
            String rule = "(".repeat(place) + "?" + "(".repeat(99 - place);
            Due.is("23: wrong at " + place, Due.rule(x, rule, 0), -1 - Math.min(60, place));
            String plan = (":" + ".".repeat(99)).substring(0, place) + "?" + ".".repeat(99 - place);
            Due.is("13: wrong at " + place, Due.plan(x, plan, 0), -1 - Math.min(60, place));
        }
    }

    /** As deep as sixty signs go. */
    private static void deepest() {
        RaceByLaps x = Due.plain(2, 2);
        Due.aCar(x, 0, 0);
        Due.is("23: 28 deep", Due.rule(x, "(".repeat(28) + "1" + ")".repeat(28) + ":+1", 0), 1);
        Due.is("23: 57 ahead of a thing", Due.rule(x, "!".repeat(56) + "1:+2", 0), 2);
        Due.is("23: 56 ahead of a thing", Due.rule(x, "-".repeat(56) + "1:+4", 0), 3);
        Due.is("23: in all", x.seconds(0, 0), 7);
        Due.is("13: 28 deep", Due.plan(x, "(".repeat(28) + "1" + ")".repeat(28) + ":+", 0), 1);
        Due.is("13: is true", x.at(0, 1, 0), 60200);
        Due.is("13: not closed", Due.plan(x, "(".repeat(29) + "1" + ")".repeat(28) + ":+", 0), -59);
        Due.is("13: closed too often", Due.plan(x, "(".repeat(28) + "1" + ")".repeat(29) + ":+", 0), -58);
        Due.is("23: 19 things wait", Due.rule(x, "1|1&1<1+1*(1|1&1<1+1*(1|1&1<1+1*(1|1&1<1+1*(0))))+0:+8", 0), 4);
        Due.is("23: in all", x.seconds(0, 0), 15);
    }

    /** Says what a condition is, by the rule that has it. */
    private static void is(String condition, boolean due) {
        RaceByLaps x = Due.plain(2, 1);
        x.car(0, 200, 1, 3, 1, 200);
        x.tyre(0, 0, 0);
        Due.is("4: a rule " + condition, Due.rule(x, condition + ":+1", 0), 1);
        Due.is("4: " + condition, x.seconds(0, 0), due ? 1 : 0);
    }

    /** "a NUMBER of 1 to 3 digits". */
    private static void numbers() {
        String[] numbers = {"0", "9", "00", "09", "99", "000", "009", "099", "100", "999"};
        int[] values = {0, 9, 0, 9, 99, 0, 9, 99, 100, 999};
        for (int i = 0; i < numbers.length; i++) {
            is(numbers[i], values[i] != 0);
            is(numbers[i] + "=" + values[i], true);
        }
        RaceByLaps x = new RaceByLaps();
        for (String wrong : new String[] {"0000", "0001", "1000", "9999"}) Due.is("4: four digits", Due.rule(x, wrong + ":X", 0), -4);
    }

    /** "+ and a NUMBER (seconds)". */
    private static void seconds() {
        String[] numbers = {"0", "000", "001", "9", "99", "999"};
        int[] values = {0, 0, 1, 9, 99, 999};
        RaceByLaps x = Due.plain(2, 1);
        Due.aCar(x, 0, 0);
        int sum = 0;
        for (int i = 0; i < numbers.length; i++) {
            Due.is("23: +" + numbers[i], Due.rule(x, "1:+" + numbers[i], 0), i + 1);
            sum += values[i];
            Due.is("25: all of them", x.seconds(0, 0), sum);
        }
        Due.is("23: four digits", Due.rule(x, "1:+1000", 0), -7);
        Due.is("23: none", Due.rule(x, "1:+", 0), -4);
        Due.is("23: below 0", Due.rule(x, "1:-5", 0), -3);
        for (int i = 6; i < 10; i++) Due.rule(x, "1:+999", 0);
        Due.is("25: the most", x.seconds(0, 0), sum + 4 * 999);
        Due.is("27: in its sum", x.sum(0, 0), 40000 + 1000 * (sum + 4 * 999));
    }

    /** "< > = (two numbers, 1 or 0; not one behind the other)". */
    private static void comparing() {
        is("1<2", true);
        is("2<2", false);
        is("3<2", false);
        is("1>2", false);
        is("2>2", false);
        is("3>2", true);
        is("1=2", false);
        is("2=2", true);
        is("-1<0", true);
        is("(5<9)=1", true);
        is("(9<5)=0", true);
        is("1<2&2<3|4<3", true);
        is("(1<2)<(2<3)", false);
        is("(1<2)=(2<3)", true);
        is("1=(2=3)", false);
        is("0=(2=3)", true);
        RaceByLaps x = new RaceByLaps();
        String[] wrong = {"1<2<3", "1=2=3", "1>2+3<4", "1&2<3>4", "(1<2)<3=4", "1<-2<3", "1<!2=3", "1=(2=3)=4"};
        int[] places = {3, 3, 5, 5, 7, 4, 4, 7};
        for (int i = 0; i < wrong.length; i++) Due.is("4: " + wrong[i], Due.rule(x, wrong[i] + ":X", 0), -1 - places[i]);
    }

    /** "from those that bind least: | & then < > = then + - then * then ahead of a thing ! and -". */
    private static void binding() {
        is("1|1&0", true);
        is("0&1|1", true);
        is("0&0<1", false);
        is("1|2=3", true);
        is("2&3=3", true);
        is("1=2|3", true);
        is("3=1+2", true);
        is("1+2=3", true);
        is("5-1<4", false);
        is("1+2*3=7", true);
        is("2*3+1=7", true);
        is("9-2*3=3", true);
        is("-2*3=0-6", true);
        is("2*-3=-6", true);
        is("!0+1=2", true);
        is("!0*5=5", true);
        is("!1=0", true);
        is("-1+3=2", true);
        is("!2<1", true);
        is("!(2<1)", true);
        is("!(1<2)", false);
    }

    /** "+ - * from the left". */
    private static void fromTheLeft() {
        is("9-3-2=4", true);
        is("9-(3-2)=8", true);
        is("9-3+2=8", true);
        is("9-(3+2)=4", true);
        is("1-2-3-4=0-8", true);
        is("2*3*4=24", true);
        is("999*999*999*3<0", true);
        is("5-2*2-1=0", true);
    }

    /** "| & ! give 1 or 0 (0 is false)", "an EXPRESSION that is not 0". */
    private static void truth() {
        String[] numbers = {"0", "1", "2", "-1", "999"};
        for (String a : numbers) {
            is(a, !a.equals("0"));
            is("!" + a + "=" + (a.equals("0") ? 1 : 0), true);
            for (String b : numbers) {
                boolean both = !a.equals("0") && !b.equals("0");
                boolean one = !a.equals("0") || !b.equals("0");
                is("(" + a + "&" + b + ")=" + (both ? 1 : 0), true);
                is("(" + a + "|" + b + ")=" + (one ? 1 : 0), true);
            }
        }
        is("1-1", false);
        is("1-2", true);
    }

    /** "ahead of a thing ! and - (any many)". */
    private static void aheadOfAThing() {
        is("!!5=1", true);
        is("!!!5=0", true);
        is("--5=5", true);
        is("---5=0-5", true);
        is("!-5=0", true);
        is("-!5=0", true);
        is("-!0=0-1", true);
        is("!-!0", false);
        is("4--4=8", true);
        is("4---4=0", true);
        is("4+-4=0", true);
        is("4*-!0=-4", true);
        is("-(2+3)=-5", true);
        is("!(2-2)", true);
    }

    /** "As ints": they wrap round, at both ends. */
    private static void asInts() {
        String least = "512*512*512*16";
        is(least + "<0", true);
        is(least + "-1>0", true);
        is(least + "-1+1<0", true);
        is("-(" + least + ")<0", true);
        is("-(" + least + ")=" + least, true);
        is("0-(" + least + ")<0", true);
        is("512*512*512*8>0", true);
        is("512*512*512*32=0", true);
        is("512*512*512*32", false);
        is("!(512*512*512*32)", true);
        is("256*256*256*256+1=1", true);
        is("999*999*999*999*999<0", (int) (999L * 999 * 999 * 999 * 999) < 0);
        is(least + "<" + least + "-1", true);
        is("2*(" + least + ")=0", true);
    }

    /** "LETTERS: s k p l w c o f t", at their least and at their most. */
    private static void lettersOfRules() {
        RaceByLaps x = Due.plain(5, 12);
        x.car(0, 200, 1, 0, 0, 200);
        String none = "s=0&k=0&p=0&l=0&w=0&c=0&o=1&f=200&t=0:+1";
        Due.is("4: a rule", Due.rule(x, none, 0), 1);
        Due.is("4: one that does not start", x.seconds(0, 0), 1);
        for (int set = 0; set < 4; set++) x.tyre(0, 3 - set, 0);
        for (int i = 0; i < 5; i++) x.stop(0, 2 * i, i % 4, 200);
        x.finding(0, 0, 0, 999);
        Due.rule(x, "s=5&k=4&p=0&l=12&w=999&c=0&o=0&f=185&t=0:+2", 0);
        x.finding(0, 0, 0, 0);
        Due.rule(x, "w=0:+4", 0);
        Due.is("4: four kinds, five stops", x.seconds(0, 0), 4);
        Due.is("16: fuel", x.of(0, 6), 185);
        x.finding(1, 0, 0, 999);
        Due.is("4: on that day", x.seconds(0, 1), 2);
        RaceByLaps y = Due.plain(2, 1);
        y.car(0, 9, 9, 3, 1, 9);
        y.tyre(0, 3, 0);
        Due.rule(y, "k=1&l=0&c=1&o=1&f=0&t=3:+8", 0);
        Due.is("4: out in its first lap", y.seconds(0, 0), 8);
        RaceByLaps z = Due.plain(2, 3);
        z.car(0, 9, 1, 2, 0, 3);
        z.tyre(0, 0, 0);
        z.tyre(0, 1, 0);
        z.stop(0, 0, 1, 0);
        Due.rule(z, "s=1&k=2&l=1&f=0&o:+9", 0);
        Due.is("4: a lap and a sector, a set that it began one with", z.seconds(0, 0), 9);
        z.track(2, 2);
        z.car(0, 9, 1, 2, 0, 2);
        z.tyre(0, 0, 0);
        z.tyre(0, 1, 0);
        z.stop(0, 0, 1, 0);
        Due.rule(z, "k=2:+9", 0);
        Due.is("4: out as it begins one: begun all the same", z.seconds(0, 0), 9);
    }

    /** "Refused: there would be more than 100." */
    private static void fullTape() {
        for (int signs = 93; signs <= 100; signs++) {
            RaceByLaps x = new RaceByLaps();
            for (int i = 1; i <= 25; i++) Due.is("21: how many", x.sign(-i), 4 * i);
            Due.is("22: cut", x.end(signs), true);
            Due.is("21: 4 more than " + signs, x.sign(7), signs <= 96 ? signs + 4 : -1);
            Due.is("21: signs", x.count(8), signs <= 96 ? signs + 4 : signs);
        }
    }

    /** "true; false if it has not so many, or n is below 0". */
    private static void ends() {
        RaceByLaps x = new RaceByLaps();
        for (int n = -1; n <= 1; n++) Due.is("22: of nothing " + n, x.end(n), n == 0);
        for (int i = 0; i < 25; i++) x.sign('1' << 24 | '+' << 16 | '1' << 8 | '+');
        Due.is("22: 101 of 100", x.end(101), false);
        Due.is("22: 100 of 100", x.end(100), true);
        for (int n : new int[] {-1, Integer.MIN_VALUE, Integer.MAX_VALUE}) Due.is("22: " + n, x.end(n), false);
        Due.is("22: 100 stay", x.count(8), 100);
        Due.is("22: all but one", x.end(99), true);
        Due.is("22: no longer", x.end(100), false);
        Due.is("22: 3", x.end(3), true);
        Due.is("22: 3 are", x.count(8), 3);
        x.sign(':' << 24 | 'X' << 16);
        x.end(5);
        Due.is("22: the first three, and what came behind them", x.rule(0), 1);
        Due.is("22: none is left", x.end(1), false);
        Due.is("22: nothing of nothing", x.end(0), true);
    }

    /** "of v the highest byte first": 0 .. 255 each, of numbers below 0 too. */
    private static void signsOfAByte() {
        RaceByLaps x = new RaceByLaps();
        int[] words = {0x313A5800, 0x80313A58, 0x31803A58, 0x313A8058, 0x313A5880, -1, 0, Integer.MIN_VALUE, 0x313A58FF};
        int[] due = {-4, -1, -2, -3, -4, -1, -1, -1, -4};
        for (int i = 0; i < words.length; i++) {
            Due.is("21: four", x.sign(words[i]), 4);
            Due.is("21: word " + i, x.rule(0), due[i]);
        }
        x.sign(0x313A2B30);
        Due.is("21: 1:+0", x.rule(0), 1);
    }

    /** "THE TAPE, which is empty then": rule and plan begin anew with the next sign. */
    private static void tapeOfTwo() {
        RaceByLaps x = Due.plain(2, 2);
        Due.aCar(x, 0, 0);
        Due.is("23: a rule", Due.rule(x, "1:+7", 0), 1);
        Due.is("13: a plan", Due.plan(x, ":+", 0), 1);
        Due.is("23: a wrong rule", Due.rule(x, "1:+7:", 0), -5);
        Due.is("23: a rule", Due.rule(x, "0:X", 0), 2);
        Due.is("25: the first rule", x.seconds(0, 0), 7);
        Due.is("13: the plan", x.at(0, 1, 0), 60200);
        Due.is("23: of nothing", x.rule(0), -1);
        Due.is("13: of nothing", x.plan(0), -1);
        Due.is("23: two rules", x.count(5), 2);
    }

    /** A wrong text leaves nothing behind that the next one would have: no operator, no number, no seconds. */
    private static void behindWrongOnes() {
        String[] wrong = {"!", "!!", "-!", "1&!", "0*", "0&", "(!", "((!(", "1-", "1:+9", "1:+99x", "1:X?", "0|0", "12", "1<2", "(1<2", "!".repeat(60), "(".repeat(60), "1<(".repeat(20),
            "!1:?", "-!1:", "0&1:?", "1-1:", "!(1|0):?"};
        for (String text : wrong) {
            RaceByLaps x = Due.plain(2, 2);
            Due.aCar(x, 0, 0);
            for (int time = 0; time < 3; time++) {
                Due.plan(x, text, 0);
                Due.rule(x, text.endsWith("9") ? text + "?" : text, 1);
            }
            Due.is("23: none of " + text, x.count(5), 0);
            Due.is("23: a rule behind " + text, Due.rule(x, "1:+1", 0), 1);
            Due.is("23: one that compares behind " + text, Due.rule(x, "1<2:+2", 0), 2);
            Due.is("23: one that does not hold behind " + text, Due.rule(x, "0:+4", 0), 3);
            Due.is("23: one that says X behind " + text, Due.rule(x, "1:X", 2), 4);
            Due.is("25: seconds behind " + text, x.seconds(0, 0), 3);
            Due.is("25: X behind " + text, x.seconds(0, 2), -2);
            Due.is("13: a plan behind " + text, Due.plan(x, "1=2:-;1:+", 0), 1);
            Due.is("13: as it says behind " + text, x.at(0, 1, 0), 60200);
        }
    }
}

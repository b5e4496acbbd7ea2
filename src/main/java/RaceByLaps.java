import java.util.Arrays;
import java.util.NoSuchElementException;

/**
 * A race of many laps, reckoned anew from all that is told whenever an answer asks for it.
 * The rows are made once, in the constructors, and used again: a try of another race makes no object.
 */
public final class RaceByLaps {
    public static final int NONE = -1;

    private static final int MOST_SECTORS = 5;
    private static final int MOST_LAPS = 12;
    private static final int MOST_LINES = MOST_SECTORS * MOST_LAPS;
    private static final int MOST_CARS = 6;
    private static final int MOST_SETS = 4;
    private static final int MOST_STOPS = 5;
    private static final int MOST_ORDERS = 12;
    private static final int MOST_OPTIONS = 4;
    private static final int MOST_RAIN = 30;
    private static final int MOST_FLAGS = 20;
    private static final int MOST_RULES = 10;
    private static final int MOST_FINDINGS = 20;
    private static final int MOST_DAY = 99;
    private static final int MOST_FUEL = 200;
    private static final int MOST_TEAMS = 4;
    private static final int MOST_CLASSES = 2;
    private static final int MOST_KINDS = 4;
    private static final int MOST_TRIED_STOPS = 2;
    private static final int MOST_SIGNS_ON_TAPE = 100;
    private static final int MOST_SIGNS = 60;
    private static final int MOST_WAYS = 1000;

    /** A text of 60 signs has at most 20 lines; one more may be begun by its last sign. */
    private static final int MOST_TEXT_LINES = 21;

    private static final int NUMBER_COUNT = 8;
    private static final int GAP = 0;
    private static final int LOAD = 1;
    private static final int PUSH = 2;
    private static final int LANE = 3;
    private static final int CHANGE = 4;
    private static final int FILL = 5;
    private static final int GRID = 6;
    private static final int LAG = 7;
    private static final int[] NUMBERS_AT_FIRST = {500, 5, 200, 15000, 3000, 50, 300, 0};
    private static final int[] NUMBERS_LEAST = {100, 0, 0, 0, 0, 0, 0, 0};
    private static final int[] NUMBERS_MOST = {2000, 50, 500, 60000, 20000, 200, 2000, 9};

    private static final int TYRE_NUMBER_COUNT = 6;
    private static final int FROM = 0;
    private static final int WEAR = 1;
    private static final int CLIFF = 2;
    private static final int FALL = 3;
    private static final int LIKES = 4;
    private static final int MISS = 5;
    private static final int[] TYRES_AT_FIRST = {0, 10, 40, 1000, 0, 5};
    private static final int[] TYRES_MOST = {3000, 100, 200, 5000, 100, 100};

    private static final int YELLOW = 0;
    private static final int SLOW = 1;
    private static final int RUNNING = 0;
    private static final int FINISHED = 1;
    private static final int OUT = 2;
    private static final int ORDER_MODE = 0;
    private static final int FINDING_WEIGHT = 0;
    private static final int FINDING_TIME = 1;

    private static final int NO_PLACE = -2;
    private static final int SAYS_X = -2;
    private static final int NO_PAIR = -2;
    private static final int NO_SUCH_TEXT = -100;

    /** Stands for the place of a car without one while tries are compared: behind all others. */
    private static final int BEHIND_ALL = 99;

    private static final String RULE_LETTERS = "skplwcoft";
    private static final String PLAN_LETTERS = "lrpafnokwvyth";

    /** In a text's code numbers stand as they are, letters and operators above these. */
    private static final int LETTER = 1000;
    private static final int OPERATOR = 2000;
    private static final int NEGATE = '~';

    /** An act that a plan's line leaves as it was. */
    private static final int KEEP = 9;

    private final Track track;
    private final Race race;
    private final Book book;
    private final Result result;
    private final Tries tries;
    private final Reader reader;
    private final int[] tape;
    private int tapeLength;
    private final int[] rowNumbers;
    private int rowCount;
    private Text spareText;

    public RaceByLaps() {
        Reckoner reckoner = new Reckoner();
        track = new Track();
        race = new Race(track, reckoner);
        book = new Book(reckoner);
        result = new Result(race, book);
        tries = new Tries(race, result);
        reader = new Reader();
        tape = new int[MOST_SIGNS_ON_TAPE];
        rowNumbers = new int[MOST_CARS];
        spareText = new Text();
    }

    // ---- track

    public boolean track(int s, int n) {
        if (s < 2 || s > MOST_SECTORS || n < 1 || n > MOST_LAPS) {
            return false;
        }
        track.layAnew(s, n);
        race.count = 0;
        race.fresh = false;
        book.ruleCount = 0;
        book.findings.size = 0;
        return true;
    }

    public boolean sector(int i, int length, int ease) {
        if (!track.hasSector(i) || !isWithin(length, 5000, 60000) || !isWithin(ease, NONE, 5000)) {
            return false;
        }
        track.lengths[i] = length;
        track.eases[i] = ease;
        race.fresh = false;
        return true;
    }

    public int tyres(int kind, int what, int v) {
        if (!isIndex(kind, MOST_KINDS) || !isIndex(what, TYRE_NUMBER_COUNT) || !isWithin(v, 0, TYRES_MOST[what])) {
            return NONE;
        }
        int was = track.tyreNumber(kind, what);
        track.tyreNumbers[kind * TYRE_NUMBER_COUNT + what] = v;
        race.fresh = false;
        return was;
    }

    public int set(int what, int v) {
        if (!isIndex(what, NUMBER_COUNT) || !isWithin(v, NUMBERS_LEAST[what], NUMBERS_MOST[what])) {
            return NONE;
        }
        int was = track.numbers[what];
        track.numbers[what] = v;
        race.fresh = false;
        return was;
    }

    public int rain(int sector, int time, int wet) {
        if (!track.hasSector(sector) || time < 0 || !isWithin(wet, 0, 100)) {
            return NONE;
        }
        race.fresh = false;
        return track.rains.push(sector, time, wet, 0);
    }

    public int flag(int sector, int from, int to, int kind) {
        if (sector != NONE && !track.hasSector(sector)) {
            return NONE;
        }
        if (from < 0 || to < from || !isWithin(kind, YELLOW, SLOW)) {
            return NONE;
        }
        race.fresh = false;
        return track.flags.push(sector, from, to, kind);
    }

    // ---- cars

    public int car(int off, int tank, int burn, int team, int clas, int fuel) {
        if (!isWithin(off, -2000, 2000) || !isWithin(tank, 1, MOST_FUEL) || !isWithin(burn, 1, 9)) {
            return NONE;
        }
        if (!isIndex(team, MOST_TEAMS) || !isIndex(clas, MOST_CLASSES) || !isWithin(fuel, 0, tank)) {
            return NONE;
        }
        if (!isIndex(race.count, MOST_CARS)) {
            return NONE;
        }
        Car told = race.cars[race.count];
        told.forget();
        told.off = off;
        told.tank = tank;
        told.burn = burn;
        told.team = team;
        told.clas = clas;
        told.fuel = fuel;
        race.count++;
        race.fresh = false;
        return race.count - 1;
    }

    public int tyre(int car, int kind, int age) {
        if (!race.has(car) || !isIndex(kind, MOST_KINDS) || !isWithin(age, 0, 100)) {
            return NONE;
        }
        Table sets = race.cars[car].sets;
        if (sets.isFull()) {
            return NONE;
        }
        race.fresh = false;
        return sets.push(kind, age, 0, 0) - 1;
    }

    public int order(int car, int lap, int what, int v) {
        if (!race.has(car) || !isIndex(lap, track.laps) || !isWithin(what, 0, 1)) {
            return NONE;
        }
        if (!isWithin(v, what == ORDER_MODE ? -1 : 0, 1)) {
            return NONE;
        }
        race.fresh = false;
        return race.cars[car].orders.push(lap, what, v, 0);
    }

    public int stop(int car, int lap, int set, int fuel) {
        if (!race.has(car) || !isWithin(lap, 0, track.laps - 2)) {
            return NONE;
        }
        if (!isWithin(set, NONE, MOST_SETS - 1) || !isWithin(fuel, 0, MOST_FUEL)) {
            return NONE;
        }
        race.fresh = false;
        return race.cars[car].stops.push(lap, set, fuel, 0);
    }

    public int drop(int car, int stop) {
        if (!race.has(car) || !isIndex(stop, race.cars[car].stops.size)) {
            return NONE;
        }
        race.fresh = false;
        return race.cars[car].stops.removeAt(stop);
    }

    public int plan(int car) {
        int length = takeTape();
        if (!race.has(car)) {
            return NO_SUCH_TEXT;
        }
        int wrong = reader.firstWrong(tape, length, spareText, true);
        if (wrong != NONE) {
            return -1 - wrong;
        }
        Text old = race.cars[car].plan;
        race.cars[car].plan = spareText;
        race.cars[car].hasPlan = true;
        spareText = old;
        race.fresh = false;
        return 1;
    }

    public boolean unplan(int car) {
        if (!race.has(car) || !race.cars[car].hasPlan) {
            return false;
        }
        race.cars[car].hasPlan = false;
        race.fresh = false;
        return true;
    }

    public int count(int what) {
        switch (what) {
            case 0: return track.sectors;
            case 1: return track.laps;
            case 2: return race.count;
            case 3: return track.rains.size;
            case 4: return track.flags.size;
            case 5: return book.ruleCount;
            case 6: return book.findings.size;
            case 7: return rowCount;
            case 8: return tapeLength;
            case 9: return race.optionCount();
            default: return NONE;
        }
    }

    // ---- the race

    public int of(int car, int what) throws NoSuchElementException {
        if (!race.has(car) || !isWithin(what, 0, 10)) {
            throw new NoSuchElementException();
        }
        race.reckon();
        return race.runners[car].tell(what);
    }

    public int at(int car, int lap, int sector) {
        if (!race.has(car) || !track.hasLine(lap, sector)) {
            return NONE;
        }
        race.reckon();
        return race.runners[car].timeAt(track.lineOf(lap, sector));
    }

    public int led(int lap, int i) {
        if (!isIndex(lap, track.laps) || !isIndex(i, race.count)) {
            return NONE;
        }
        race.reckon();
        return race.inOrder(track.lineOf(lap, track.sectors - 1), i);
    }

    public int waited(int car) {
        if (!race.has(car)) {
            return NONE;
        }
        race.reckon();
        return race.runners[car].lostAtBox;
    }

    public int leads() {
        race.reckon();
        int changes = 0;
        int leader = race.inOrder(track.lineOf(0, track.sectors - 1), 0);
        for (int lap = 1; lap < track.laps; lap++) {
            int next = race.inOrder(track.lineOf(lap, track.sectors - 1), 0);
            if (next == NONE) {
                return changes;
            }
            if (next != leader) {
                changes++;
            }
            leader = next;
        }
        return changes;
    }

    // ---- the book

    public int sign(int v) {
        if (tapeLength + 4 > MOST_SIGNS_ON_TAPE) {
            return NONE;
        }
        for (int shift = 24; shift >= 0; shift -= 8) {
            tape[tapeLength] = (v >>> shift) & 255;
            tapeLength++;
        }
        return tapeLength;
    }

    public boolean end(int n) {
        if (n < 0 || n > tapeLength) {
            return false;
        }
        tapeLength = n;
        return true;
    }

    public int rule(int day) {
        int length = takeTape();
        if (!isDay(day) || !isIndex(book.ruleCount, MOST_RULES)) {
            return NO_SUCH_TEXT;
        }
        int wrong = reader.firstWrong(tape, length, spareText, false);
        if (wrong != NONE) {
            return -1 - wrong;
        }
        spareText = book.takeRule(spareText, day);
        return book.ruleCount;
    }

    public int finding(int day, int car, int what, int v) {
        if (!isDay(day) || !race.has(car) || !isWithin(what, FINDING_WEIGHT, FINDING_TIME)) {
            return NONE;
        }
        boolean fits = what == FINDING_WEIGHT ? isWithin(v, 0, 999) : isWithin(v, -60000, 60000);
        if (!fits) {
            return NONE;
        }
        return book.findings.push(day, car, what, v);
    }

    public int seconds(int car, int day) {
        if (!race.has(car) || !isDay(day)) {
            return NONE;
        }
        race.reckon();
        return book.secondsBy(race.cars[car], race.runners[car], race.lapsEnded(car), book.weightBy(car, day), day);
    }

    public int place(int car, int day) {
        if (!race.has(car) || !isDay(day)) {
            return NONE;
        }
        race.reckon();
        result.reckonFor(day);
        return result.placeAmong(car, NONE);
    }

    public int sum(int car, int day) throws NoSuchElementException {
        if (!race.has(car) || !isDay(day)) {
            throw new NoSuchElementException();
        }
        race.reckon();
        result.reckonFor(day);
        if (!result.counted[car]) {
            throw new NoSuchElementException();
        }
        return result.sums[car];
    }

    public int within(int car, int day) {
        if (!race.has(car) || !isDay(day)) {
            return NONE;
        }
        race.reckon();
        result.reckonFor(day);
        return result.placeAmong(car, race.cars[car].clas);
    }

    public int result(int day) {
        if (!isDay(day)) {
            return NONE;
        }
        race.reckon();
        result.reckonFor(day);
        int placed = 0;
        for (int k = 0; k < race.count && k < MOST_CARS; k++) {
            int at = result.placeAmong(k, NONE);
            if (isIndex(at, MOST_CARS)) {
                rowNumbers[at] = k;
                placed++;
            }
        }
        rowCount = placed;
        return placed;
    }

    // ---- tried

    public int move(int car, int stop, int lap, int day) {
        if (!race.has(car) || !isIndex(stop, race.cars[car].stops.size)) {
            return NONE;
        }
        if (!isWithin(lap, 0, track.laps - 2) || !isDay(day)) {
            return NONE;
        }
        Table stops = race.cars[car].stops;
        int told = stops.cell(stop, 0);
        stops.put(stop, 0, lap);
        race.run();
        result.reckonFor(day);
        stops.put(stop, 0, told);
        int found = result.placeAmong(car, NONE);
        return found == NONE ? NO_PLACE : found;
    }

    public int best(int car, int m, int day) {
        if (!race.has(car) || !isWithin(m, 0, MOST_TRIED_STOPS) || !isDay(day)) {
            return NONE;
        }
        if (!tries.search(car, m, day)) {
            return NONE;
        }
        for (int i = 0; i < 2 * m && i < MOST_CARS; i++) {
            rowNumbers[i] = tries.bestWay[i];
        }
        rowCount = 2 * m;
        return tries.bestPlace == BEHIND_ALL ? NO_PLACE : tries.bestPlace;
    }

    public int gain(int car, int m, int day) {
        if (!race.has(car) || !isWithin(m, 0, MOST_TRIED_STOPS) || !isDay(day)) {
            return NONE;
        }
        race.reckon();
        result.reckonFor(day);
        int told = result.placeAmong(car, NONE);
        if (!tries.search(car, m, day)) {
            return NONE;
        }
        int from = told == NONE ? race.count : told;
        int to = Math.min(tries.bestPlace, race.count);
        return Math.max(0, from - to);
    }

    public int option(int car, int lap, int set) {
        if (!race.has(car) || !isWithin(lap, NONE, track.laps - 2) || !isWithin(set, NONE, MOST_SETS - 1)) {
            return NONE;
        }
        return race.cars[car].options.push(lap, set, 0, 0);
    }

    public int clear() {
        int were = race.optionCount();
        for (int k = 0; k < race.count && k < MOST_CARS; k++) {
            race.cars[k].options.size = 0;
        }
        return were;
    }

    public int settle(int a, int b, int day) {
        if (!race.has(a) || !race.has(b) || a == b || !isDay(day)) {
            return NONE;
        }
        if (race.cars[a].options.size == 0 || race.cars[b].options.size == 0) {
            return NONE;
        }
        return tries.firstSettled(a, b, day);
    }

    // ---- lost lines

    public boolean lost(int sector, boolean is) {
        if (!track.hasSector(sector) || sector == track.sectors - 1) {
            return false;
        }
        track.lostLines[sector] = is;
        return true;
    }

    public int known(int car, int lap, int sector, int what) {
        if (!race.has(car) || !track.hasLine(lap, sector) || !isWithin(what, 0, 1)) {
            return NONE;
        }
        race.reckon();
        return race.spanAt(car, track.lineOf(lap, sector), what == 0);
    }

    public int ahead(int a, int b, int lap, int sector) {
        if (!race.has(a) || !race.has(b) || a == b || !track.hasLine(lap, sector)) {
            return NONE;
        }
        race.reckon();
        int line = track.lineOf(lap, sector);
        int greatest = race.spanAt(a, line, false);
        int least = race.spanAt(b, line, true);
        if (greatest == NONE || least == NONE) {
            return NONE;
        }
        return greatest < least ? 1 : 0;
    }

    public int wall(int car, int time) {
        if (!race.has(car) || time < 0) {
            return NONE;
        }
        race.reckon();
        int ended = race.endedByWall(car, time);
        int when = race.runners[car].timeOrStart(ended - 1);
        int place = 0;
        for (int k = 0; k < race.count && k < MOST_CARS; k++) {
            int otherEnded = race.endedByWall(k, time);
            int otherWhen = race.runners[k].timeOrStart(otherEnded - 1);
            boolean before = otherWhen < when || otherWhen == when && k < car;
            if (otherEnded > ended || otherEnded == ended && before) {
                place++;
            }
        }
        return place;
    }

    public int why(int car, int lap) {
        if (!race.has(car) || !isIndex(lap, track.laps)) {
            return NONE;
        }
        race.reckon();
        return race.runners[car].linesDone[lap];
    }

    public int row(int i) throws NoSuchElementException {
        if (!isIndex(i, rowCount) || i >= MOST_CARS) {
            throw new NoSuchElementException();
        }
        return rowNumbers[i];
    }

    /** Whatever becomes of the text, the tape is empty once a call has asked for it. */
    private int takeTape() {
        int length = tapeLength;
        tapeLength = 0;
        return length;
    }

    private static boolean isWithin(int v, int least, int most) {
        return v >= least && v <= most;
    }

    private static boolean isIndex(int i, int length) {
        return i >= 0 && i < length;
    }

    private static boolean isDay(int day) {
        return isWithin(day, 0, MOST_DAY);
    }

    /** Rows of numbers in the order told, with a limit: its cells are the only ones looked up by told numbers. */
    private static final class Table {
        final int limit;
        final int width;
        final int[] cells;
        int size;

        Table(int limit, int width) {
            this.limit = limit;
            this.width = width;
            cells = new int[Math.max(0, limit * width)];
        }

        boolean isFull() {
            return size >= limit;
        }

        int cell(int i, int column) {
            if (i < 0 || i >= size || column < 0 || column >= width) {
                return NONE;
            }
            return cells[i * width + column];
        }

        void put(int i, int column, int v) {
            if (i >= 0 && i < size && column >= 0 && column < width) {
                cells[i * width + column] = v;
            }
        }

        int push(int a, int b, int c, int d) {
            if (isFull()) {
                return NONE;
            }
            size++;
            put(size - 1, 0, a);
            put(size - 1, 1, b);
            put(size - 1, 2, c);
            put(size - 1, 3, d);
            return size;
        }

        int removeAt(int i) {
            for (int row = i; row < size - 1; row++) {
                for (int column = 0; column < width; column++) {
                    put(row, column, cell(row + 1, column));
                }
            }
            size--;
            return size;
        }
    }

    /** What holds for all cars: sectors, tyres, numbers, rain and flags. */
    private static final class Track {
        int sectors;
        int laps;
        final int[] lengths;
        final int[] eases;
        final boolean[] lostLines;
        final int[] tyreNumbers;
        final int[] numbers;
        final Table rains;
        final Table flags;

        Track() {
            lengths = new int[MOST_SECTORS];
            eases = new int[MOST_SECTORS];
            lostLines = new boolean[MOST_SECTORS];
            tyreNumbers = new int[MOST_KINDS * TYRE_NUMBER_COUNT];
            numbers = new int[NUMBER_COUNT];
            rains = new Table(MOST_RAIN, 3);
            flags = new Table(MOST_FLAGS, 4);
            for (int kind = 0; kind < MOST_KINDS; kind++) {
                for (int what = 0; what < TYRE_NUMBER_COUNT; what++) {
                    tyreNumbers[kind * TYRE_NUMBER_COUNT + what] = TYRES_AT_FIRST[what];
                }
            }
            for (int what = 0; what < NUMBER_COUNT; what++) {
                numbers[what] = NUMBERS_AT_FIRST[what];
            }
            layAnew(2, 1);
        }

        void layAnew(int s, int n) {
            sectors = s;
            laps = n;
            for (int i = 0; i < MOST_SECTORS; i++) {
                lengths[i] = 20000;
                eases[i] = 300;
                lostLines[i] = false;
            }
            rains.size = 0;
            flags.size = 0;
        }

        boolean hasSector(int i) {
            return isIndex(i, sectors);
        }

        boolean hasLine(int lap, int sector) {
            return isIndex(lap, laps) && hasSector(sector);
        }

        /** Lines are numbered through the whole race, from 0 on. */
        int lineOf(int lap, int sector) {
            return lap * sectors + sector;
        }

        int sectorOf(int line) {
            return sectors > 0 ? line % sectors : 0;
        }

        int lapOf(int line) {
            return sectors > 0 ? line / sectors : 0;
        }

        boolean tells(int line) {
            return !lostLines[sectorOf(line)];
        }

        int tyreNumber(int kind, int what) {
            if (!isIndex(kind, MOST_KINDS) || !isIndex(what, TYRE_NUMBER_COUNT)) {
                return 0;
            }
            return tyreNumbers[kind * TYRE_NUMBER_COUNT + what];
        }

        int wetAt(int sector, int time) {
            int wet = 0;
            int since = 0;
            for (int i = 0; i < rains.size; i++) {
                int from = rains.cell(i, 1);
                if (rains.cell(i, 0) == sector && from <= time && from >= since) {
                    since = from;
                    wet = rains.cell(i, 2);
                }
            }
            return wet;
        }

        boolean slowAt(int time) {
            for (int i = 0; i < flags.size; i++) {
                if (flags.cell(i, 3) == SLOW && flags.cell(i, 1) <= time && time < flags.cell(i, 2)) {
                    return true;
                }
            }
            return false;
        }

        /** Sector NONE asks for yellow anywhere. */
        boolean yellowAt(int sector, int time) {
            for (int i = 0; i < flags.size; i++) {
                int over = flags.cell(i, 0);
                boolean there = over == NONE || sector == NONE || over == sector;
                if (there && flags.cell(i, 3) == YELLOW && flags.cell(i, 1) <= time && time < flags.cell(i, 2)) {
                    return true;
                }
            }
            return false;
        }
    }

    /** A car as told. */
    private static final class Car {
        int off;
        int tank;
        int burn;
        int team;
        int clas;
        int fuel;
        final Table sets;
        final Table orders;
        final Table stops;
        final Table options;
        final Table triedStops;
        Text plan;
        boolean hasPlan;
        boolean isTried;

        Car() {
            sets = new Table(MOST_SETS, 2);
            orders = new Table(MOST_ORDERS, 3);
            stops = new Table(MOST_STOPS, 3);
            options = new Table(MOST_OPTIONS, 2);
            triedStops = new Table(MOST_TRIED_STOPS, 3);
            plan = new Text();
        }

        void forget() {
            sets.size = 0;
            orders.size = 0;
            stops.size = 0;
            options.size = 0;
            hasPlan = false;
            isTried = false;
        }

        Table stopsInForce() {
            return isTried ? triedStops : stops;
        }

        boolean isAsked() {
            return hasPlan && !isTried;
        }

        int stopBehind(int lap) {
            Table inForce = stopsInForce();
            for (int i = inForce.size - 1; i >= 0; i--) {
                if (inForce.cell(i, 0) == lap) {
                    return i;
                }
            }
            return NONE;
        }

        void tryOption(int i) {
            isTried = true;
            triedStops.size = 0;
            if (options.cell(i, 0) != NONE) {
                triedStops.push(options.cell(i, 0), options.cell(i, 1), MOST_FUEL, 0);
            }
        }
    }

    /** A rule or a plan as code: conditions with their operators behind what they join, and what each line does. */
    private static final class Text {
        final int[] code;
        int codeLength;
        final int[] conditionEnd;
        final int[] mode;
        final int[] bold;
        final int[] box;
        int lines;
        int seconds;

        Text() {
            code = new int[MOST_SIGNS];
            conditionEnd = new int[MOST_TEXT_LINES];
            mode = new int[MOST_TEXT_LINES];
            bold = new int[MOST_TEXT_LINES];
            box = new int[MOST_TEXT_LINES];
        }

        void empty() {
            codeLength = 0;
            lines = 0;
            seconds = 0;
        }

        void emit(int item) {
            if (isIndex(codeLength, MOST_SIGNS)) {
                code[codeLength] = item;
                codeLength++;
            }
        }

        void addDigit(int digit) {
            if (isIndex(codeLength - 1, MOST_SIGNS)) {
                code[codeLength - 1] = code[codeLength - 1] * 10 + digit;
            }
        }

        void endCondition() {
            if (isIndex(lines, MOST_TEXT_LINES)) {
                conditionEnd[lines] = codeLength;
                mode[lines] = KEEP;
                bold[lines] = KEEP;
                box[lines] = NONE;
                lines++;
            }
        }

        /** What stands behind the colon belongs to the line whose condition was ended last. */
        void act(int sign) {
            int line = lines - 1;
            if (!isIndex(line, MOST_TEXT_LINES)) {
                return;
            }
            switch (sign) {
                case '+': mode[line] = 1; break;
                case '=': mode[line] = 0; break;
                case '-': mode[line] = -1; break;
                case 'g': bold[line] = 1; break;
                case 'h': bold[line] = 0; break;
                default: break;
            }
        }

        void actBox(int set) {
            if (isIndex(lines - 1, MOST_TEXT_LINES)) {
                box[lines - 1] = set;
            }
        }
    }

    /** Takes a text sign by sign, so that the first one that can't stand is the one that is refused. */
    private static final class Reader {
        private static final int LINE = 0;
        private static final int OPERAND = 1;
        private static final int BEHIND = 2;
        private static final int VERDICT = 3;
        private static final int SECONDS = 4;
        private static final int DONE = 5;
        private static final int ACT = 6;
        private static final int ACTS = 7;
        private static final int BOX = 8;

        private static final int COMPARE_LEVEL = 3;
        private static final int UNARY_LEVEL = 6;

        private final int[] waiting;
        private int waitingCount;
        private final boolean[] comparedOutside;
        private int depth;
        private boolean compared;
        private int digits;
        private int state;
        private boolean isPlan;
        private Text into;

        Reader() {
            waiting = new int[MOST_SIGNS];
            comparedOutside = new boolean[MOST_SIGNS];
        }

        /** Answers the place of the first sign that can't stand, or NONE if the text is whole. */
        int firstWrong(int[] signs, int length, Text text, boolean asPlan) {
            isPlan = asPlan;
            into = text;
            into.empty();
            beginLine();
            for (int i = 0; i < length && i < MOST_SIGNS && i < signs.length; i++) {
                if (!takes(signs[i])) {
                    return i;
                }
            }
            if (length > MOST_SIGNS) {
                return MOST_SIGNS;
            }
            boolean whole = isPlan ? state == ACTS : state == DONE || state == SECONDS && digits > 0;
            return whole ? NONE : length;
        }

        private void beginLine() {
            state = LINE;
            waitingCount = 0;
            depth = 0;
            digits = 0;
            compared = false;
        }

        private boolean takes(int sign) {
            switch (state) {
                case LINE:
                case OPERAND: return takesOperand(sign);
                case BEHIND: return takesBehindOperand(sign);
                case VERDICT: return takesVerdict(sign);
                case SECONDS: return takesSeconds(sign);
                case ACT:
                case ACTS: return takesAct(sign);
                case BOX: return takesBox(sign);
                default: return false;
            }
        }

        private boolean takesOperand(int sign) {
            if (isDigit(sign)) {
                into.emit(sign - '0');
                digits = 1;
                state = BEHIND;
                return true;
            }
            if (isLetter(sign)) {
                into.emit(LETTER + sign - 'a');
                digits = 0;
                state = BEHIND;
                return true;
            }
            if (sign == ':' && isPlan && state == LINE) {
                return endsCondition();
            }
            if (sign == '(') {
                return opens();
            }
            if (sign == '!' || sign == '-') {
                hold(sign == '-' ? NEGATE : sign);
                state = OPERAND;
                return true;
            }
            return false;
        }

        private boolean takesBehindOperand(int sign) {
            if (isDigit(sign)) {
                if (digits < 1 || digits > 2) {
                    return false;
                }
                into.addDigit(sign - '0');
                digits++;
                return true;
            }
            digits = 0;
            if (sign == ':') {
                return depth == 0 && endsCondition();
            }
            if (sign == ')') {
                return closes();
            }
            return joins(sign);
        }

        private boolean joins(int sign) {
            int level = levelOf(sign);
            if (level == 0 || level == UNARY_LEVEL || level == COMPARE_LEVEL && compared) {
                return false;
            }
            if (level <= COMPARE_LEVEL) {
                compared = level == COMPARE_LEVEL;
            }
            release(level);
            hold(sign);
            state = OPERAND;
            return true;
        }

        private boolean opens() {
            if (!isIndex(depth, MOST_SIGNS)) {
                return false;
            }
            comparedOutside[depth] = compared;
            depth++;
            compared = false;
            hold('(');
            state = OPERAND;
            return true;
        }

        private boolean closes() {
            if (!isIndex(depth - 1, MOST_SIGNS)) {
                return false;
            }
            release(1);
            waitingCount--;
            depth--;
            compared = comparedOutside[depth];
            return true;
        }

        private boolean endsCondition() {
            release(1);
            into.endCondition();
            state = isPlan ? ACT : VERDICT;
            return true;
        }

        private boolean takesVerdict(int sign) {
            if (sign == 'X') {
                into.seconds = SAYS_X;
                state = DONE;
                return true;
            }
            digits = 0;
            state = SECONDS;
            return sign == '+';
        }

        private boolean takesSeconds(int sign) {
            if (!isDigit(sign) || digits > 2) {
                return false;
            }
            into.seconds = into.seconds * 10 + sign - '0';
            digits++;
            return true;
        }

        private boolean takesAct(int sign) {
            switch (sign) {
                case ';':
                    if (state != ACTS) {
                        return false;
                    }
                    beginLine();
                    return true;
                case 'b':
                    state = BOX;
                    return true;
                case '+':
                case '=':
                case '-':
                case 'g':
                case 'h':
                case '.':
                    into.act(sign);
                    state = ACTS;
                    return true;
                default:
                    return false;
            }
        }

        private boolean takesBox(int sign) {
            if (sign < '0' || sign > '3') {
                return false;
            }
            into.actBox(sign - '0');
            state = ACTS;
            return true;
        }

        private void hold(int operator) {
            if (isIndex(waitingCount, MOST_SIGNS)) {
                waiting[waitingCount] = operator;
                waitingCount++;
            }
        }

        /** Operators that bind as much or more take what they have; a parenthesis, of level 0, keeps the rest back. */
        private void release(int level) {
            for (int i = waitingCount - 1; i >= 0 && levelOf(waiting[i]) >= level; i--) {
                into.emit(OPERATOR + waiting[i]);
                waitingCount = i;
            }
        }

        private boolean isLetter(int sign) {
            String letters = isPlan ? PLAN_LETTERS : RULE_LETTERS;
            return sign >= 'a' && sign <= 'z' && letters.indexOf((char) sign) >= 0;
        }

        private static boolean isDigit(int sign) {
            return sign >= '0' && sign <= '9';
        }

        private static int levelOf(int operator) {
            switch (operator) {
                case '|': return 1;
                case '&': return 2;
                case '<':
                case '>':
                case '=': return COMPARE_LEVEL;
                case '+':
                case '-': return 4;
                case '*': return 5;
                case '!':
                case NEGATE: return UNARY_LEVEL;
                default: return 0;
            }
        }
    }

    /** Reckons conditions; whoever asks sets the letters first. */
    private static final class Reckoner {
        private static final int LETTER_COUNT = 26;

        final int[] letters;
        final int[] stack;

        Reckoner() {
            letters = new int[LETTER_COUNT];
            stack = new int[MOST_SIGNS];
        }

        void let(char letter, int v) {
            if (isIndex(letter - 'a', LETTER_COUNT)) {
                letters[letter - 'a'] = v;
            }
        }

        int firstTrue(Text text) {
            for (int line = 0; line < text.lines; line++) {
                if (holds(text, line)) {
                    return line;
                }
            }
            return NONE;
        }

        boolean holds(Text text, int line) {
            if (!isIndex(line, MOST_TEXT_LINES)) {
                return false;
            }
            int from = line == 0 ? 0 : text.conditionEnd[line - 1];
            int to = Math.min(text.conditionEnd[line], MOST_SIGNS);
            int top = -1;
            for (int i = from; i < to; i++) {
                int item = text.code[i];
                if (item < OPERATOR) {
                    top = Math.min(top + 1, MOST_SIGNS - 1);
                    stack[top] = valueOf(item);
                } else if (top >= 0 && (item == OPERATOR + '!' || item == OPERATOR + NEGATE)) {
                    stack[top] = item == OPERATOR + NEGATE ? -stack[top] : stack[top] == 0 ? 1 : 0;
                } else if (top >= 1) {
                    top--;
                    stack[top] = join(item - OPERATOR, stack[top], stack[top + 1]);
                }
            }
            return from == to || stack[0] != 0;
        }

        private int valueOf(int item) {
            if (item < LETTER) {
                return item;
            }
            int letter = item - LETTER;
            return letter < LETTER_COUNT ? letters[letter] : 0;
        }

        private static int join(int operator, int a, int b) {
            switch (operator) {
                case '|': return a != 0 || b != 0 ? 1 : 0;
                case '&': return a != 0 && b != 0 ? 1 : 0;
                case '<': return a < b ? 1 : 0;
                case '>': return a > b ? 1 : 0;
                case '=': return a == b ? 1 : 0;
                case '+': return a + b;
                case '-': return a - b;
                default: return a * b;
            }
        }
    }

    /** What a car has come to in the race that was reckoned last. */
    private static final class Runner {
        int next;
        int begun;
        int ended;
        int state;
        int stateTime;
        int stopsMade;
        int kinds;
        int offences;
        int fuel;
        int setOn;
        int passed;
        int held;
        int lostAtBox;
        int mode;
        int bold;
        final int[] ages;
        final int[] times;
        final int[] linesDone;
        final int[] turnIn;
        final int[] endIn;

        Runner() {
            ages = new int[MOST_SETS];
            times = new int[MOST_LINES];
            linesDone = new int[MOST_LAPS];
            turnIn = new int[MOST_SECTORS];
            endIn = new int[MOST_SECTORS];
        }

        void start(Car car, int time) {
            next = time;
            begun = 0;
            ended = 0;
            boolean starts = car.sets.size > 0;
            state = starts ? RUNNING : OUT;
            stateTime = 0;
            stopsMade = 0;
            kinds = 0;
            offences = 0;
            fuel = car.fuel;
            setOn = starts ? 0 : NONE;
            passed = 0;
            held = 0;
            lostAtBox = 0;
            mode = 0;
            bold = 0;
            for (int set = 0; set < MOST_SETS; set++) {
                ages[set] = car.sets.cell(set, 1);
            }
            Arrays.fill(linesDone, NONE);
            Arrays.fill(turnIn, 0);
        }

        int age() {
            return isIndex(setOn, MOST_SETS) ? ages[setOn] : NONE;
        }

        void wear() {
            if (isIndex(setOn, MOST_SETS)) {
                ages[setOn] += mode == -1 ? 2 : 1;
            }
        }

        void rest(int how, int time) {
            state = how;
            stateTime = time;
        }

        void endLine(int line, int sector, int time, int turn) {
            if (isIndex(line, MOST_LINES) && isIndex(sector, MOST_SECTORS)) {
                times[line] = time;
                ended = line + 1;
                turnIn[sector] = turn;
                endIn[sector] = time;
                next = time;
            }
        }

        int timeAt(int line) {
            return isIndex(line, ended) ? times[line] : NONE;
        }

        int timeOrStart(int line) {
            return isIndex(line, ended) ? times[line] : 0;
        }

        int tell(int what) {
            switch (what) {
                case 0: return state;
                case 1: return stateTime;
                case 2: return ended;
                case 3: return stopsMade;
                case 4: return Integer.bitCount(kinds);
                case 5: return offences;
                case 6: return fuel;
                case 7: return setOn;
                case 8: return age();
                case 9: return passed;
                default: return held;
            }
        }
    }

    /** The cars, and the race of them as it is told now (or tried). */
    private static final class Race {
        private static final int MOST_STEPS = MOST_CARS * MOST_LINES + 1;

        final Track track;
        final Reckoner reckoner;
        final Car[] cars;
        final Runner[] runners;
        final int[] boxFree;
        int count;
        int turn;
        boolean fresh;

        Race(Track track, Reckoner reckoner) {
            this.track = track;
            this.reckoner = reckoner;
            cars = new Car[MOST_CARS];
            runners = new Runner[MOST_CARS];
            boxFree = new int[MOST_TEAMS];
            for (int k = 0; k < MOST_CARS; k++) {
                cars[k] = new Car();
                runners[k] = new Runner();
            }
        }

        boolean has(int k) {
            return isIndex(k, count) && k < MOST_CARS;
        }

        int optionCount() {
            int all = 0;
            for (int k = 0; k < count && k < MOST_CARS; k++) {
                all += cars[k].options.size;
            }
            return all;
        }

        void reckon() {
            if (!fresh) {
                run();
                fresh = true;
            }
        }

        /** A run may be a try: only reckon() knows that it was the race as told. */
        void run() {
            fresh = false;
            turn = 0;
            Arrays.fill(boxFree, 0);
            for (int k = 0; k < count && k < MOST_CARS; k++) {
                runners[k].start(cars[k], track.numbers[GRID] * k);
            }
            for (int step = 0; step < MOST_STEPS; step++) {
                int k = nextToGo();
                if (!has(k)) {
                    return;
                }
                goOn(k, cars[k], runners[k]);
            }
        }

        private int nextToGo() {
            int found = NONE;
            for (int k = 0; k < count && k < MOST_CARS; k++) {
                if (runners[k].state == RUNNING && (found == NONE || goesAhead(runners[k], runners[found]))) {
                    found = k;
                }
            }
            return found;
        }

        private static boolean goesAhead(Runner a, Runner b) {
            return a.next < b.next || a.next == b.next && a.begun > b.begun;
        }

        private void goOn(int k, Car car, Runner runner) {
            int line = runner.begun;
            int sector = track.sectorOf(line);
            int begins = runner.next;
            hear(car, runner, line);
            runner.begun++;
            runner.kinds |= 1 << car.sets.cell(runner.setOn, 0);
            int burns = car.burn - runner.mode;
            if (runner.fuel < burns) {
                runner.rest(OUT, begins);
                return;
            }
            runner.fuel -= burns;
            boolean slow = track.slowAt(begins);
            int takes = slow ? slowTime(k, sector) : freeTime(car, runner, sector, begins);
            if (!slow) {
                runner.wear();
            }
            turn++;
            int ends = heldEnd(k, sector, begins, begins + takes);
            runner.endLine(line, sector, ends, turn);
            if (sector == track.sectors - 1) {
                endLap(k, car, runner, track.lapOf(line), ends);
            }
        }

        private void hear(Car car, Runner runner, int line) {
            for (int i = 0; i < car.orders.size; i++) {
                if (car.orders.cell(i, 0) * track.sectors + track.numbers[LAG] != line) {
                    continue;
                }
                if (car.orders.cell(i, 1) == ORDER_MODE) {
                    runner.mode = car.orders.cell(i, 2);
                } else {
                    runner.bold = car.orders.cell(i, 2);
                }
            }
        }

        private int slowTime(int k, int sector) {
            boolean inFront = true;
            for (int other = 0; other < count && other < MOST_CARS; other++) {
                if (other != k && runners[other].state == RUNNING && runners[other].begun >= runners[k].begun) {
                    inFront = false;
                }
            }
            return track.lengths[sector] * (inFront ? 150 : 120) / 100;
        }

        private int freeTime(Car car, Runner runner, int sector, int begins) {
            int kind = car.sets.cell(runner.setOn, 0);
            int age = runner.age();
            int missed = Math.abs(track.wetAt(sector, begins) - track.tyreNumber(kind, LIKES));
            int time = track.lengths[sector] + car.off + track.numbers[LOAD] * runner.fuel;
            time += track.tyreNumber(kind, FROM) + track.tyreNumber(kind, WEAR) * age;
            if (age >= track.tyreNumber(kind, CLIFF)) {
                time += track.tyreNumber(kind, FALL);
            }
            time += track.tyreNumber(kind, MISS) * missed + track.numbers[PUSH] * runner.mode;
            return Math.max(1000, time);
        }

        private int heldEnd(int k, int sector, int begins, int free) {
            int before = turn;
            for (int asked = 0; asked < MOST_CARS; asked++) {
                int other = latestBefore(k, sector, before);
                if (!has(other)) {
                    return free;
                }
                int behind = runners[other].endIn[sector] + track.numbers[GAP];
                if (free >= behind) {
                    return free;
                }
                if (!passes(runners[k], runners[other], sector, begins, free)) {
                    runners[k].held++;
                    return behind;
                }
                before = runners[other].turnIn[sector];
            }
            return free;
        }

        /** The car that began this sector latest of those whose turn came before the one told. */
        private int latestBefore(int k, int sector, int before) {
            int found = NONE;
            int latest = 0;
            for (int other = 0; other < count && other < MOST_CARS; other++) {
                int at = runners[other].turnIn[sector];
                if (other != k && at > latest && at < before) {
                    latest = at;
                    found = other;
                }
            }
            return found;
        }

        private boolean passes(Runner runner, Runner other, int sector, int begins, int free) {
            boolean lapped = runner.begun - other.begun >= track.sectors;
            int ease = lapped ? 0 : track.eases[sector];
            if (ease == NONE || free + ease > other.endIn[sector]) {
                return false;
            }
            if (track.yellowAt(sector, begins) || track.slowAt(begins)) {
                if (runner.bold == 0) {
                    return false;
                }
                runner.offences++;
            }
            runner.passed++;
            return true;
        }

        private void endLap(int k, Car car, Runner runner, int lap, int ends) {
            if (lap == track.laps - 1 || isRaceWon(k, ends)) {
                runner.rest(FINISHED, ends);
                return;
            }
            int box = NONE;
            if (car.isAsked()) {
                setLetters(k, car, runner, lap, ends);
                box = follow(car.plan, reckoner.firstTrue(car.plan), runner, lap);
            }
            int stop = car.stopBehind(lap);
            if (stop != NONE) {
                Table inForce = car.stopsInForce();
                atBox(car, runner, ends, inForce.cell(stop, 1), inForce.cell(stop, 2));
            } else if (box != NONE) {
                atBox(car, runner, ends, box, MOST_FUEL);
            }
        }

        private boolean isRaceWon(int k, int by) {
            int last = track.lineOf(track.laps - 1, track.sectors - 1);
            for (int other = 0; other < count && other < MOST_CARS; other++) {
                int at = runners[other].timeAt(last);
                if (other != k && at != NONE && at <= by) {
                    return true;
                }
            }
            return false;
        }

        private void setLetters(int k, Car car, Runner runner, int lap, int now) {
            int line = track.lineOf(lap, track.sectors - 1);
            int before = 0;
            int latest = NONE;
            for (int other = 0; other < count && other < MOST_CARS; other++) {
                int at = runners[other].timeAt(line);
                if (other != k && at != NONE && at <= now) {
                    before++;
                    latest = Math.max(latest, at);
                }
            }
            reckoner.let('l', lap + 1);
            reckoner.let('r', track.laps - lap - 1);
            reckoner.let('p', before + 1);
            reckoner.let('a', before == 0 ? 999 : (now - latest) / 100);
            reckoner.let('f', runner.fuel);
            reckoner.let('n', car.burn * (track.laps * track.sectors - runner.ended));
            reckoner.let('o', runner.age());
            reckoner.let('k', car.sets.cell(runner.setOn, 0));
            reckoner.let('w', track.wetAt(0, now));
            reckoner.let('v', track.slowAt(now) ? 1 : 0);
            reckoner.let('y', track.yellowAt(NONE, now) ? 1 : 0);
            reckoner.let('t', runner.stopsMade);
            reckoner.let('h', freeFrom(car.team) <= now + track.numbers[LANE] ? 1 : 0);
        }

        /** Answers the set of the stop that the plan wants, or NONE. */
        private static int follow(Text plan, int line, Runner runner, int lap) {
            if (!isIndex(line, MOST_TEXT_LINES) || !isIndex(lap, MOST_LAPS)) {
                return NONE;
            }
            runner.linesDone[lap] = line;
            if (plan.mode[line] != KEEP) {
                runner.mode = plan.mode[line];
            }
            if (plan.bold[line] != KEEP) {
                runner.bold = plan.bold[line];
            }
            return plan.box[line];
        }

        private int freeFrom(int team) {
            return isIndex(team, MOST_TEAMS) ? boxFree[team] : 0;
        }

        private void atBox(Car car, Runner runner, int ends, int set, int fuel) {
            int comes = ends + track.numbers[LANE];
            int served = Math.max(comes, freeFrom(car.team));
            int stays = 0;
            if (isIndex(set, car.sets.size) && set != runner.setOn) {
                stays += track.numbers[CHANGE];
                runner.setOn = set;
            }
            int put = Math.min(fuel, car.tank - runner.fuel);
            stays += track.numbers[FILL] * put;
            runner.fuel += put;
            runner.lostAtBox += served - comes;
            runner.stopsMade++;
            runner.next = served + stays;
            if (isIndex(car.team, MOST_TEAMS)) {
                boxFree[car.team] = served + stays;
            }
        }

        int lapsEnded(int k) {
            return has(k) ? track.lapOf(runners[k].ended) : 0;
        }

        /** The i-th car at a line, by time, then number. */
        int inOrder(int line, int i) {
            for (int k = 0; k < count && k < MOST_CARS; k++) {
                int time = runners[k].timeAt(line);
                if (time != NONE && aheadAt(line, k, time) == i) {
                    return k;
                }
            }
            return NONE;
        }

        private int aheadAt(int line, int k, int time) {
            int ahead = 0;
            for (int other = 0; other < count && other < MOST_CARS; other++) {
                int at = runners[other].timeAt(line);
                if (at != NONE && (at < time || at == time && other < k)) {
                    ahead++;
                }
            }
            return ahead;
        }

        int spanAt(int k, int line, boolean least) {
            if (!has(k)) {
                return NONE;
            }
            Runner runner = runners[k];
            int time = runner.timeAt(line);
            if (time == NONE || track.tells(line)) {
                return time;
            }
            int behind = line + 1;
            while (behind < MOST_LINES && !track.tells(behind)) {
                behind++;
            }
            int until = runner.timeAt(behind);
            if (until == NONE) {
                return NONE;
            }
            if (!least) {
                return until - 1000 * (behind - line);
            }
            int ahead = line - 1;
            while (ahead >= 0 && !track.tells(ahead)) {
                ahead--;
            }
            int since = ahead < 0 ? track.numbers[GRID] * k : runner.timeAt(ahead);
            return since + 1000 * (line - ahead);
        }

        int endedByWall(int k, int time) {
            if (!has(k)) {
                return 0;
            }
            for (int line = runners[k].ended - 1; line >= 0; line--) {
                if (track.tells(line) && runners[k].timeAt(line) <= time) {
                    return line + 1;
                }
            }
            return 0;
        }
    }

    /** The rules and what is found. */
    private static final class Book {
        final Reckoner reckoner;
        final Text[] rules;
        final int[] fromDay;
        int ruleCount;
        final Table findings;

        Book(Reckoner reckoner) {
            this.reckoner = reckoner;
            rules = new Text[MOST_RULES];
            fromDay = new int[MOST_RULES];
            findings = new Table(MOST_FINDINGS, 4);
            for (int i = 0; i < MOST_RULES; i++) {
                rules[i] = new Text();
            }
        }

        /** Answers the text that the new one is put in place of, to be used again. */
        Text takeRule(Text text, int day) {
            if (!isIndex(ruleCount, MOST_RULES)) {
                return text;
            }
            Text old = rules[ruleCount];
            rules[ruleCount] = text;
            fromDay[ruleCount] = day;
            ruleCount++;
            return old;
        }

        int weightBy(int car, int day) {
            int weight = 0;
            int since = 0;
            for (int i = 0; i < findings.size; i++) {
                int found = findings.cell(i, 0);
                if (isOf(i, car, FINDING_WEIGHT) && found <= day && found >= since) {
                    since = found;
                    weight = findings.cell(i, 3);
                }
            }
            return weight;
        }

        int timeBy(int car, int day) {
            int time = 0;
            for (int i = 0; i < findings.size; i++) {
                if (isOf(i, car, FINDING_TIME) && findings.cell(i, 0) <= day) {
                    time += findings.cell(i, 3);
                }
            }
            return time;
        }

        private boolean isOf(int i, int car, int what) {
            return findings.cell(i, 1) == car && findings.cell(i, 2) == what;
        }

        int secondsBy(Car car, Runner runner, int laps, int weight, int day) {
            reckoner.let('s', runner.stopsMade);
            reckoner.let('k', Integer.bitCount(runner.kinds));
            reckoner.let('p', runner.offences);
            reckoner.let('l', laps);
            reckoner.let('w', weight);
            reckoner.let('c', car.clas);
            reckoner.let('o', runner.state == OUT ? 1 : 0);
            reckoner.let('f', runner.fuel);
            reckoner.let('t', car.team);
            int seconds = 0;
            for (int i = 0; i < ruleCount && i < MOST_RULES; i++) {
                if (fromDay[i] <= day && reckoner.holds(rules[i], 0)) {
                    if (rules[i].seconds == SAYS_X) {
                        return SAYS_X;
                    }
                    seconds += rules[i].seconds;
                }
            }
            return seconds;
        }
    }

    /** The result of a day, of the race that was reckoned last. */
    private static final class Result {
        final Race race;
        final Book book;
        final boolean[] counted;
        final int[] laps;
        final int[] sums;

        Result(Race race, Book book) {
            this.race = race;
            this.book = book;
            counted = new boolean[MOST_CARS];
            laps = new int[MOST_CARS];
            sums = new int[MOST_CARS];
        }

        void reckonFor(int day) {
            for (int k = 0; k < race.count && k < MOST_CARS; k++) {
                Runner runner = race.runners[k];
                laps[k] = race.lapsEnded(k);
                int seconds = book.secondsBy(race.cars[k], runner, laps[k], book.weightBy(k, day), day);
                counted[k] = runner.state != OUT && seconds != SAYS_X;
                sums[k] = runner.stateTime + 1000 * seconds + book.timeBy(k, day);
            }
        }

        /** Place among the cars of a class; class NONE: among all. */
        int placeAmong(int car, int clas) {
            if (!race.has(car) || !counted[car]) {
                return NONE;
            }
            int place = 0;
            for (int k = 0; k < race.count && k < MOST_CARS; k++) {
                boolean rival = counted[k] && (clas == NONE || race.cars[k].clas == clas);
                if (rival && isAhead(k, car)) {
                    place++;
                }
            }
            return place;
        }

        private boolean isAhead(int a, int b) {
            if (laps[a] != laps[b]) {
                return laps[a] > laps[b];
            }
            return sums[a] < sums[b] || sums[a] == sums[b] && a < b;
        }

        /** Place for comparing tries. */
        int triedPlace(int car) {
            int place = placeAmong(car, NONE);
            return place == NONE ? BEHIND_ALL : place;
        }

        /** All that have no place are equal, so their sums say nothing. */
        int triedSum(int car) {
            return isIndex(car, MOST_CARS) && counted[car] ? sums[car] : 0;
        }
    }

    /** Races with something told otherwise. */
    private static final class Tries {
        private static final int PAIRS = MOST_OPTIONS * MOST_OPTIONS;

        final Race race;
        final Result result;
        final int[] lapOf;
        final int[] setOf;
        final int[] bestWay;
        int bestPlace;
        int bestSum;
        final int[] placeOfA;
        final int[] sumOfA;
        final int[] placeOfB;
        final int[] sumOfB;

        Tries(Race race, Result result) {
            this.race = race;
            this.result = result;
            lapOf = new int[MOST_TRIED_STOPS];
            setOf = new int[MOST_TRIED_STOPS];
            bestWay = new int[2 * MOST_TRIED_STOPS];
            placeOfA = new int[PAIRS];
            sumOfA = new int[PAIRS];
            placeOfB = new int[PAIRS];
            sumOfB = new int[PAIRS];
        }

        /** Leaves the best way for a car to have m stops; false: there is no way. */
        boolean search(int k, int m, int day) {
            if (!race.has(k) || !isWithin(m, 0, MOST_TRIED_STOPS)) {
                return false;
            }
            Car car = race.cars[k];
            int lastLap = race.track.laps - 2;
            if (m > 0 && (car.sets.size == 0 || m - 1 > lastLap)) {
                return false;
            }
            for (int i = 0; i < m; i++) {
                lapOf[i] = i;
                setOf[i] = 0;
            }
            car.isTried = true;
            boolean more = true;
            for (int way = 0; way < MOST_WAYS && more; way++) {
                takeWay(car, m);
                race.run();
                result.reckonFor(day);
                if (way == 0 || isBetter(result.triedPlace(k), result.triedSum(k), bestPlace, bestSum)) {
                    keepWay(k, m);
                }
                more = nextSets(m, car.sets.size) || nextLaps(m, lastLap);
            }
            car.isTried = false;
            return true;
        }

        private void takeWay(Car car, int m) {
            car.triedStops.size = 0;
            for (int i = 0; i < m && i < MOST_TRIED_STOPS; i++) {
                car.triedStops.push(lapOf[i], setOf[i], MOST_FUEL, 0);
            }
        }

        private void keepWay(int k, int m) {
            bestPlace = result.triedPlace(k);
            bestSum = result.triedSum(k);
            for (int i = 0; i < m && i < MOST_TRIED_STOPS; i++) {
                bestWay[2 * i] = lapOf[i];
                bestWay[2 * i + 1] = setOf[i];
            }
        }

        private boolean nextSets(int m, int sets) {
            for (int i = m - 1; i >= 0 && i < MOST_TRIED_STOPS; i--) {
                setOf[i]++;
                if (setOf[i] < sets) {
                    return true;
                }
                setOf[i] = 0;
            }
            return false;
        }

        private boolean nextLaps(int m, int lastLap) {
            for (int i = m - 1; i >= 0 && i < MOST_TRIED_STOPS; i--) {
                int lap = lapOf[i] + 1;
                if (lap + m - 1 - i <= lastLap) {
                    for (int j = i; j < m && j < MOST_TRIED_STOPS; j++) {
                        lapOf[j] = lap + j - i;
                    }
                    return true;
                }
            }
            return false;
        }

        private static boolean isBetter(int place, int sum, int thanPlace, int thanSum) {
            return place < thanPlace || place == thanPlace && sum < thanSum;
        }

        int firstSettled(int a, int b, int day) {
            if (!race.has(a) || !race.has(b)) {
                return NONE;
            }
            int ofA = Math.min(race.cars[a].options.size, MOST_OPTIONS);
            int ofB = Math.min(race.cars[b].options.size, MOST_OPTIONS);
            for (int i = 0; i < ofA; i++) {
                for (int j = 0; j < ofB; j++) {
                    race.cars[a].tryOption(i);
                    race.cars[b].tryOption(j);
                    race.run();
                    result.reckonFor(day);
                    keepPair(a, b, i * MOST_OPTIONS + j);
                }
            }
            race.cars[a].isTried = false;
            race.cars[b].isTried = false;
            for (int i = 0; i < ofA; i++) {
                for (int j = 0; j < ofB; j++) {
                    if (isSettled(i, j, ofA, ofB)) {
                        return 10 * i + j;
                    }
                }
            }
            return NO_PAIR;
        }

        private void keepPair(int a, int b, int pair) {
            if (!isIndex(pair, PAIRS)) {
                return;
            }
            placeOfA[pair] = result.triedPlace(a);
            sumOfA[pair] = result.triedSum(a);
            placeOfB[pair] = result.triedPlace(b);
            sumOfB[pair] = result.triedSum(b);
        }

        private boolean isSettled(int i, int j, int ofA, int ofB) {
            int pair = i * MOST_OPTIONS + j;
            for (int other = 0; other < ofA; other++) {
                int at = other * MOST_OPTIONS + j;
                if (isBetter(placeOfA[at], sumOfA[at], placeOfA[pair], sumOfA[pair])) {
                    return false;
                }
            }
            for (int other = 0; other < ofB; other++) {
                int at = i * MOST_OPTIONS + other;
                if (isBetter(placeOfB[at], sumOfB[at], placeOfB[pair], sumOfB[pair])) {
                    return false;
                }
            }
            return true;
        }
    }
}

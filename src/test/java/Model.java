import java.util.ArrayList;
import java.util.Arrays;
import java.util.Comparator;
import java.util.HashSet;
import java.util.List;
import java.util.NoSuchElementException;
import java.util.Set;

/**
 * The document a second time, as plainly as it can be told: all lists, every race run anew for every
 * question, texts read by recursive descent. ModelTest holds RaceByLaps against it.
 */
final class Model {
    static final int NONE = -1;

    static final class Entry {
        int off, tank, burn, team, clas, fuel;
        final List<int[]> sets = new ArrayList<>();
        final List<int[]> orders = new ArrayList<>();
        List<int[]> stops = new ArrayList<>();
        final List<int[]> options = new ArrayList<>();
        String plan;
    }

    /** One car in one race. */
    static final class Run {
        int next, begun, state, when, stops, offences, fuel, on = NONE, passed, held, waited, mode, bold;
        final Set<Integer> kinds = new HashSet<>();
        final List<Integer> ends = new ArrayList<>();
        int[] ages, done = new int[12];
    }

    int s = 2, n = 1;
    int[] length = new int[5], ease = new int[5];
    boolean[] lost = new boolean[5];
    final int[][] tyres = new int[4][];
    final int[] numbers = {500, 5, 200, 15000, 3000, 50, 300, 0};
    final List<int[]> rain = new ArrayList<>(), flags = new ArrayList<>(), findings = new ArrayList<>();
    final List<Entry> cars = new ArrayList<>();
    final List<String> rules = new ArrayList<>();
    final List<Integer> ruleDays = new ArrayList<>();
    String tape = "";
    List<Integer> row = new ArrayList<>();

    Model() {
        for (int k = 0; k < 4; k++) tyres[k] = new int[] {0, 10, 40, 1000, 0, 5};
        track(2, 1);
    }

    static boolean in(int v, int a, int b) { return a <= v && v <= b; }

    boolean isCar(int c) { return in(c, 0, cars.size() - 1); }

    boolean isDay(int d) { return in(d, 0, 99); }

    boolean track(int s, int n) {
        if (!in(s, 2, 5) || !in(n, 1, 12)) return false;
        this.s = s;
        this.n = n;
        Arrays.fill(length, 20000);
        Arrays.fill(ease, 300);
        Arrays.fill(lost, false);
        rain.clear();
        flags.clear();
        cars.clear();
        rules.clear();
        ruleDays.clear();
        findings.clear();
        return true;
    }

    boolean sector(int i, int len, int e) {
        if (!in(i, 0, s - 1) || !in(len, 5000, 60000) || !in(e, -1, 5000)) return false;
        length[i] = len;
        ease[i] = e;
        return true;
    }

    int tyres(int kind, int what, int v) {
        int[] most = {3000, 100, 200, 5000, 100, 100};
        if (!in(kind, 0, 3) || !in(what, 0, 5) || !in(v, 0, most[what])) return NONE;
        int was = tyres[kind][what];
        tyres[kind][what] = v;
        return was;
    }

    int set(int what, int v) {
        int[] most = {2000, 50, 500, 60000, 20000, 200, 2000, 9};
        if (!in(what, 0, 7) || !in(v, what == 0 ? 100 : 0, most[what])) return NONE;
        int was = numbers[what];
        numbers[what] = v;
        return was;
    }

    int rain(int sector, int time, int wet) {
        if (!in(sector, 0, s - 1) || time < 0 || !in(wet, 0, 100) || rain.size() == 30) return NONE;
        rain.add(new int[] {sector, time, wet});
        return rain.size();
    }

    int flag(int sector, int from, int to, int kind) {
        if (!in(sector, -1, s - 1) || from < 0 || to < from || !in(kind, 0, 1) || flags.size() == 20) return NONE;
        flags.add(new int[] {sector, from, to, kind});
        return flags.size();
    }

    int car(int off, int tank, int burn, int team, int clas, int fuel) {
        if (!in(off, -2000, 2000) || !in(tank, 1, 200) || !in(burn, 1, 9) || !in(team, 0, 3)) return NONE;
        if (!in(clas, 0, 1) || !in(fuel, 0, tank) || cars.size() == 6) return NONE;
        Entry e = new Entry();
        e.off = off;
        e.tank = tank;
        e.burn = burn;
        e.team = team;
        e.clas = clas;
        e.fuel = fuel;
        cars.add(e);
        return cars.size() - 1;
    }

    int tyre(int car, int kind, int age) {
        if (!isCar(car) || !in(kind, 0, 3) || !in(age, 0, 100) || cars.get(car).sets.size() == 4) return NONE;
        cars.get(car).sets.add(new int[] {kind, age});
        return cars.get(car).sets.size() - 1;
    }

    int order(int car, int lap, int what, int v) {
        if (!isCar(car) || !in(lap, 0, n - 1) || !in(what, 0, 1) || !in(v, what == 0 ? -1 : 0, 1)) return NONE;
        if (cars.get(car).orders.size() == 12) return NONE;
        cars.get(car).orders.add(new int[] {lap, what, v});
        return cars.get(car).orders.size();
    }

    int stop(int car, int lap, int set, int fuel) {
        if (!isCar(car) || !in(lap, 0, n - 2) || !in(set, -1, 3) || !in(fuel, 0, 200)) return NONE;
        if (cars.get(car).stops.size() == 5) return NONE;
        cars.get(car).stops.add(new int[] {lap, set, fuel});
        return cars.get(car).stops.size();
    }

    int drop(int car, int stop) {
        if (!isCar(car) || !in(stop, 0, cars.get(car).stops.size() - 1)) return NONE;
        cars.get(car).stops.remove(stop);
        return cars.get(car).stops.size();
    }

    int plan(int car) {
        String text = tape;
        tape = "";
        if (!isCar(car)) return -100;
        int wrong = ModelText.wrongInPlan(text);
        if (wrong >= 0) return -1 - wrong;
        cars.get(car).plan = text;
        return 1;
    }

    boolean unplan(int car) {
        if (!isCar(car) || cars.get(car).plan == null) return false;
        cars.get(car).plan = null;
        return true;
    }

    int count(int what) {
        int options = 0;
        for (Entry e : cars) options += e.options.size();
        int[] all = {s, n, cars.size(), rain.size(), flags.size(), rules.size(), findings.size(), row.size(),
            tape.length(), options};
        return in(what, 0, 9) ? all[what] : NONE;
    }

    // the race

    int wet(int sector, int t) {
        int best = -1, wet = 0;
        for (int[] r : rain) {
            if (r[0] == sector && r[1] <= t && r[1] >= best) {
                best = r[1];
                wet = r[2];
            }
        }
        return wet;
    }

    boolean slow(int t) {
        return flags.stream().anyMatch(f -> f[3] == 1 && f[1] <= t && t < f[2]);
    }

    boolean yellow(int sector, int t) {
        return flags.stream().anyMatch(f -> f[3] == 0 && f[1] <= t && t < f[2] && (f[0] == -1 || f[0] == sector));
    }

    boolean anyYellow(int t) {
        return flags.stream().anyMatch(f -> f[3] == 0 && f[1] <= t && t < f[2]);
    }

    /** history: car, sector, begun at, ended at; in the order in which they went on. */
    List<Run> race() {
        List<Run> runs = new ArrayList<>();
        List<int[]> history = new ArrayList<>();
        int[] box = new int[4];
        for (int k = 0; k < cars.size(); k++) {
            Entry c = cars.get(k);
            Run r = new Run();
            r.next = numbers[6] * k;
            r.fuel = c.fuel;
            r.ages = c.sets.stream().mapToInt(x -> x[1]).toArray();
            r.state = c.sets.isEmpty() ? 2 : 0;
            r.on = c.sets.isEmpty() ? NONE : 0;
            Arrays.fill(r.done, NONE);
            runs.add(r);
        }
        while (true) {
            int k = NONE;
            for (int j = 0; j < runs.size(); j++) {
                Run r = runs.get(j);
                if (r.state != 0) continue;
                if (k == NONE || r.next < runs.get(k).next || r.next == runs.get(k).next && r.begun > runs.get(k).begun) k = j;
            }
            if (k == NONE) return runs;
            step(k, runs, history, box);
        }
    }

    void step(int k, List<Run> runs, List<int[]> history, int[] box) {
        Entry c = cars.get(k);
        Run r = runs.get(k);
        int number = r.begun, i = number % s, t = r.next;
        for (int[] o : c.orders) {
            if (o[0] * s + numbers[7] == number) {
                if (o[1] == 0) r.mode = o[2];
                else r.bold = o[2];
            }
        }
        r.begun++;
        int[] set = c.sets.get(r.on);
        r.kinds.add(set[0]);
        int burns = r.mode == -1 ? c.burn + 1 : r.mode == 1 ? c.burn - 1 : c.burn;
        if (r.fuel < burns) {
            r.state = 2;
            r.when = t;
            return;
        }
        r.fuel -= burns;
        int takes;
        if (slow(t)) {
            boolean first = true;
            for (Run o : runs) if (o != r && o.state == 0 && o.begun >= r.begun) first = false;
            takes = first ? length[i] * 150 / 100 : length[i] * 120 / 100;
        } else {
            int[] y = tyres[set[0]];
            int age = r.ages[r.on];
            takes = length[i] + c.off + numbers[1] * r.fuel + y[0] + y[1] * age;
            takes += age >= y[2] ? y[3] : 0;
            takes += y[5] * Math.abs(wet(i, t) - y[4]);
            takes += numbers[2] * r.mode;
            takes = takes < 1000 ? 1000 : takes;
            r.ages[r.on] = age + (r.mode == -1 ? 2 : 1);
        }
        int e = held(k, i, t, t + takes, runs, history);
        history.add(new int[] {k, i, t, e});
        r.ends.add(e);
        r.next = e;
        if (i == s - 1) lapEnd(k, number / s, e, runs, box);
    }

    int held(int k, int i, int t, int e, List<Run> runs, List<int[]> history) {
        Run r = runs.get(k);
        Set<Integer> seen = new HashSet<>();
        for (int h = history.size() - 1; h >= 0; h--) {
            int[] o = history.get(h);
            if (o[1] != i || o[0] == k || !seen.add(o[0])) continue;
            if (e >= o[3] + numbers[0]) return e;
            boolean lapped = runs.get(o[0]).begun <= r.begun - s;
            boolean fast = lapped ? e <= o[3] : ease[i] != NONE && e + ease[i] <= o[3];
            boolean danger = yellow(i, t) || slow(t);
            if (fast && (!danger || r.bold == 1)) {
                r.passed++;
                if (danger) r.offences++;
            } else {
                r.held++;
                return o[3] + numbers[0];
            }
        }
        return e;
    }

    void lapEnd(int k, int lap, int e, List<Run> runs, int[] box) {
        Entry c = cars.get(k);
        Run r = runs.get(k);
        boolean over = lap == n - 1;
        for (Run o : runs) if (o != r && o.ends.size() == n * s && o.ends.get(n * s - 1) <= e) over = true;
        if (over) {
            r.state = 1;
            r.when = e;
            return;
        }
        int[] stop = null;
        if (c.plan != null) {
            String[] lines = c.plan.split(";");
            for (int l = 0; l < lines.length && r.done[lap] == NONE; l++) {
                int colon = lines[l].indexOf(':');
                if (colon > 0 && ModelText.value(lines[l].substring(0, colon), planLetters(k, lap, e, runs, box)) == 0) continue;
                r.done[lap] = l;
                String acts = lines[l].substring(colon + 1);
                for (int a = 0; a < acts.length(); a++) {
                    switch (acts.charAt(a)) {
                        case 'b' -> stop = new int[] {lap, acts.charAt(a + 1) - '0', c.tank - r.fuel};
                        case '+' -> r.mode = 1;
                        case '=' -> r.mode = 0;
                        case '-' -> r.mode = -1;
                        case 'g' -> r.bold = 1;
                        case 'h' -> r.bold = 0;
                        default -> { }
                    }
                }
            }
        }
        for (int[] told : c.stops) if (told[0] == lap) stop = told;
        if (stop == null) return;
        int come = e + numbers[3];
        int begin = Math.max(come, box[c.team]);
        r.waited += begin - come;
        int stay = 0;
        if (stop[1] != NONE && stop[1] < c.sets.size() && stop[1] != r.on) {
            stay = numbers[4];
            r.on = stop[1];
        }
        int put = Math.min(stop[2], c.tank - r.fuel);
        r.fuel += put;
        box[c.team] = begin + stay + numbers[5] * put;
        r.next = box[c.team];
        r.stops++;
    }

    int[] planLetters(int k, int lap, int e, List<Run> runs, int[] box) {
        Entry c = cars.get(k);
        Run r = runs.get(k);
        int p = 1, latest = NONE;
        for (Run o : runs) {
            if (o != r && o.ends.size() >= (lap + 1) * s && o.ends.get((lap + 1) * s - 1) <= e) {
                p++;
                latest = Math.max(latest, o.ends.get((lap + 1) * s - 1));
            }
        }
        int[] v = new int[128];
        v['l'] = lap + 1;
        v['r'] = n - (lap + 1);
        v['p'] = p;
        v['a'] = p == 1 ? 999 : (e - latest) / 100;
        v['f'] = r.fuel;
        v['n'] = c.burn * (n * s - r.ends.size());
        v['o'] = r.ages[r.on];
        v['k'] = c.sets.get(r.on)[0];
        v['w'] = wet(0, e);
        v['v'] = slow(e) ? 1 : 0;
        v['y'] = anyYellow(e) ? 1 : 0;
        v['t'] = r.stops;
        v['h'] = box[c.team] <= e + numbers[3] ? 1 : 0;
        return v;
    }

    int of(int car, int what) {
        if (!isCar(car) || !in(what, 0, 10)) throw new NoSuchElementException();
        Run r = race().get(car);
        int age = r.on == NONE ? NONE : r.ages[r.on];
        int[] all = {r.state, r.when, r.ends.size(), r.stops, r.kinds.size(), r.offences, r.fuel, r.on, age, r.passed, r.held};
        return all[what];
    }

    int at(int car, int lap, int sector) {
        if (!isCar(car) || !in(lap, 0, n - 1) || !in(sector, 0, s - 1)) return NONE;
        Run r = race().get(car);
        int q = lap * s + sector;
        return q < r.ends.size() ? r.ends.get(q) : NONE;
    }

    List<Integer> orderAt(int lap) {
        List<Integer> order = new ArrayList<>();
        for (int k = 0; k < cars.size(); k++) if (at(k, lap, s - 1) != NONE) order.add(k);
        order.sort(Comparator.comparingInt(k -> at(k, lap, s - 1)));
        return order;
    }

    int led(int lap, int i) {
        if (!in(lap, 0, n - 1)) return NONE;
        List<Integer> order = orderAt(lap);
        return in(i, 0, order.size() - 1) ? order.get(i) : NONE;
    }

    int waited(int car) { return isCar(car) ? race().get(car).waited : NONE; }

    int leads() {
        int changes = 0;
        for (int lap = 1; lap < n; lap++) if (led(lap, 0) != NONE && led(lap, 0) != led(lap - 1, 0)) changes++;
        return changes;
    }

    // the book

    int sign(int v) {
        if (tape.length() > 96) return NONE;
        tape = tape + (char) (v >>> 24) + (char) (v >> 16 & 255) + (char) (v >> 8 & 255) + (char) (v & 255);
        return tape.length();
    }

    boolean end(int k) {
        if (!in(k, 0, tape.length())) return false;
        tape = tape.substring(0, k);
        return true;
    }

    int rule(int day) {
        String text = tape;
        tape = "";
        if (!isDay(day) || rules.size() == 10) return -100;
        int wrong = ModelText.wrongInRule(text);
        if (wrong >= 0) return -1 - wrong;
        rules.add(text);
        ruleDays.add(day);
        return rules.size();
    }

    int finding(int day, int car, int what, int v) {
        if (!isDay(day) || !isCar(car) || !in(what, 0, 1)) return NONE;
        if (what == 0 ? !in(v, 0, 999) : !in(v, -60000, 60000)) return NONE;
        if (findings.size() == 20) return NONE;
        findings.add(new int[] {day, car, what, v});
        return findings.size();
    }

    int secondsIn(List<Run> runs, int car, int day) {
        Entry c = cars.get(car);
        Run r = runs.get(car);
        int[] v = new int[128];
        int greatest = -1;
        for (int[] f : findings) {
            if (f[0] <= day && f[1] == car && f[2] == 0 && f[0] >= greatest) {
                greatest = f[0];
                v['w'] = f[3];
            }
        }
        v['s'] = r.stops;
        v['k'] = r.kinds.size();
        v['p'] = r.offences;
        v['l'] = r.ends.size() / s;
        v['c'] = c.clas;
        v['o'] = r.state == 2 ? 1 : 0;
        v['f'] = r.fuel;
        v['t'] = c.team;
        int sum = 0;
        boolean x = false;
        for (int i = 0; i < rules.size(); i++) {
            int colon = rules.get(i).indexOf(':');
            if (ruleDays.get(i) > day || ModelText.value(rules.get(i).substring(0, colon), v) == 0) continue;
            String verdict = rules.get(i).substring(colon + 1);
            if (verdict.equals("X")) x = true;
            else sum += Integer.parseInt(verdict.substring(1));
        }
        return x ? -2 : sum;
    }

    int sumIn(List<Run> runs, int car, int day) {
        int sum = runs.get(car).when + 1000 * secondsIn(runs, car, day);
        for (int[] f : findings) if (f[0] <= day && f[1] == car && f[2] == 1) sum += f[3];
        return sum;
    }

    List<Integer> resultOf(List<Run> runs, int day) {
        List<Integer> order = new ArrayList<>();
        for (int k = 0; k < cars.size(); k++) if (runs.get(k).state != 2 && secondsIn(runs, k, day) != -2) order.add(k);
        order.sort(Comparator.comparingInt((Integer k) -> -(runs.get(k).ends.size() / s))
            .thenComparingInt(k -> sumIn(runs, k, day)).thenComparingInt(k -> k));
        return order;
    }

    int seconds(int car, int day) { return isCar(car) && isDay(day) ? secondsIn(race(), car, day) : NONE; }

    int place(int car, int day) { return isCar(car) && isDay(day) ? resultOf(race(), day).indexOf(car) : NONE; }

    int sum(int car, int day) {
        if (place(car, day) == NONE) throw new NoSuchElementException();
        return sumIn(race(), car, day);
    }

    int within(int car, int day) {
        if (place(car, day) == NONE) return NONE;
        List<Integer> order = resultOf(race(), day);
        order.removeIf(k -> cars.get(k).clas != cars.get(car).clas);
        return order.indexOf(car);
    }

    int result(int day) {
        if (!isDay(day)) return NONE;
        row = resultOf(race(), day);
        return row.size();
    }

    // tried: the answer is {place or the number of cars and 1 more, sum}

    int[] tried(int car, int day) {
        List<Run> runs = race();
        int place = resultOf(runs, day).indexOf(car);
        return place == NONE ? new int[] {cars.size(), 0} : new int[] {place, sumIn(runs, car, day)};
    }

    static boolean better(int[] a, int[] b) { return a[0] < b[0] || a[0] == b[0] && a[1] < b[1]; }

    int move(int car, int stop, int lap, int day) {
        if (!isCar(car) || !in(stop, 0, cars.get(car).stops.size() - 1) || !in(lap, 0, n - 2) || !isDay(day)) return NONE;
        int[] told = cars.get(car).stops.get(stop);
        cars.get(car).stops.set(stop, new int[] {lap, told[1], told[2]});
        int place = place(car, day);
        cars.get(car).stops.set(stop, told);
        return place == NONE ? -2 : place;
    }

    int[] withStops(int car, int day, int[]... stops) {
        Entry c = cars.get(car);
        List<int[]> told = c.stops;
        String plan = c.plan;
        c.stops = Arrays.asList(stops);
        c.plan = null;
        int[] answer = tried(car, day);
        c.stops = told;
        c.plan = plan;
        return answer;
    }

    /** Place (the number of cars: none) and the row behind it; null: no way. */
    List<Integer> search(int car, int m, int day) {
        if (!isCar(car) || !in(m, 0, 2) || !isDay(day)) return null;
        int sets = cars.get(car).sets.size();
        int[] best = null;
        List<Integer> found = null;
        if (m == 0) return new ArrayList<>(List.of(withStops(car, day)[0]));
        for (int a = 0; a < n - 1; a++) {
            for (int b = m == 1 ? a : a + 1; b < (m == 1 ? a + 1 : n - 1); b++) {
                for (int x = 0; x < sets; x++) {
                    for (int y = 0; y < (m == 1 ? 1 : sets); y++) {
                        int[] one = {a, x, 200}, two = {b, y, 200};
                        int[] got = m == 1 ? withStops(car, day, one) : withStops(car, day, one, two);
                        if (best != null && !better(got, best)) continue;
                        best = got;
                        found = new ArrayList<>(List.of(got[0], a, x));
                        if (m == 2) found.addAll(List.of(b, y));
                    }
                }
            }
        }
        return found;
    }

    int best(int car, int m, int day) {
        List<Integer> found = search(car, m, day);
        if (found == null) return NONE;
        row = found.subList(1, found.size());
        return found.get(0) == cars.size() ? -2 : found.get(0);
    }

    int gain(int car, int m, int day) {
        List<Integer> found = search(car, m, day);
        return found == null ? NONE : Math.max(0, tried(car, day)[0] - found.get(0));
    }

    int option(int car, int lap, int set) {
        if (!isCar(car) || !in(lap, -1, n - 2) || !in(set, -1, 3) || cars.get(car).options.size() == 4) return NONE;
        cars.get(car).options.add(new int[] {lap, set});
        return cars.get(car).options.size();
    }

    int clear() {
        int were = count(9);
        for (Entry e : cars) e.options.clear();
        return were;
    }

    int[][] pair(int a, int i, int b, int j, int day) {
        Entry[] both = {cars.get(a), cars.get(b)};
        int[][] chosen = {both[0].options.get(i), both[1].options.get(j)};
        List<List<int[]>> stops = List.of(both[0].stops, both[1].stops);
        String[] plans = {both[0].plan, both[1].plan};
        for (int q = 0; q < 2; q++) {
            both[q].plan = null;
            both[q].stops = new ArrayList<>();
            if (chosen[q][0] != NONE) both[q].stops.add(new int[] {chosen[q][0], chosen[q][1], 200});
        }
        int[][] answer = {tried(a, day), tried(b, day)};
        for (int q = 0; q < 2; q++) {
            both[q].plan = plans[q];
            both[q].stops = stops.get(q);
        }
        return answer;
    }

    int settle(int a, int b, int day) {
        if (!isCar(a) || !isCar(b) || a == b || !isDay(day)) return NONE;
        int ofA = cars.get(a).options.size(), ofB = cars.get(b).options.size();
        if (ofA == 0 || ofB == 0) return NONE;
        for (int i = 0; i < ofA; i++) {
            for (int j = 0; j < ofB; j++) {
                int[][] now = pair(a, i, b, j, day);
                boolean stays = true;
                for (int x = 0; x < ofA; x++) if (better(pair(a, x, b, j, day)[0], now[0])) stays = false;
                for (int y = 0; y < ofB; y++) if (better(pair(a, i, b, y, day)[1], now[1])) stays = false;
                if (stays) return 10 * i + j;
            }
        }
        return -2;
    }

    // lost lines

    boolean lost(int sector, boolean is) {
        if (!in(sector, 0, s - 2)) return false;
        lost[sector] = is;
        return true;
    }

    int known(int car, int lap, int sector, int what) {
        int time = at(car, lap, sector);
        if (time == NONE || !in(what, 0, 1)) return NONE;
        if (!lost[sector]) return time;
        int q = lap * s + sector, up = q, down = q;
        while (lost[up % s]) up++;
        while (down >= 0 && lost[down % s]) down--;
        if (at(car, up / s, up % s) == NONE) return NONE;
        if (what == 1) return at(car, up / s, up % s) - 1000 * (up - q);
        return (down < 0 ? numbers[6] * car : at(car, down / s, down % s)) + 1000 * (q - down);
    }

    int ahead(int a, int b, int lap, int sector) {
        if (a == b || known(a, lap, sector, 1) == NONE || known(b, lap, sector, 0) == NONE) return NONE;
        return known(a, lap, sector, 1) < known(b, lap, sector, 0) ? 1 : 0;
    }

    int wall(int car, int time) {
        if (!isCar(car) || time < 0) return NONE;
        List<Run> runs = race();
        List<int[]> all = new ArrayList<>();
        for (int k = 0; k < cars.size(); k++) {
            int[] told = {k, 0, 0};
            for (int q = 0; q < runs.get(k).ends.size(); q++) {
                int t = runs.get(k).ends.get(q);
                if (!lost[q % s] && t <= time) told = new int[] {k, q + 1, t};
            }
            all.add(told);
        }
        all.sort(Comparator.comparingInt((int[] x) -> -x[1]).thenComparingInt(x -> x[2]).thenComparingInt(x -> x[0]));
        for (int i = 0; i < all.size(); i++) if (all.get(i)[0] == car) return i;
        return NONE;
    }

    int why(int car, int lap) { return isCar(car) && in(lap, 0, n - 1) ? race().get(car).done[lap] : NONE; }

    int row(int i) {
        if (!in(i, 0, row.size() - 1)) throw new NoSuchElementException();
        return row.get(i);
    }
}

import java.io.IOException;
import java.nio.file.Files;
import java.nio.file.Path;
import java.util.ArrayList;
import java.util.HashMap;
import java.util.List;
import java.util.Map;
import java.util.regex.Matcher;
import java.util.regex.Pattern;

/** The rows of Java in README.md stand here too, one by one, and what they answer is what is told behind them there. */
public final class ReadmeTest {
    private static final Pattern ANSWER = Pattern.compile("int (\\w+) = .*;\\s+// (-?\\d+).*");
    private static final Map<String, Integer> got = new HashMap<>();

    public static void main(String[] args) throws IOException {
        use();
        List<String> rows = rowsOfReadme();
        List<String> own = Files.readAllLines(Path.of("src/test/java/ReadmeTest.java"));
        int at = 0;
        int answers = 0;
        for (String row : rows) {
            while (at < own.size() && !own.get(at).strip().equals(row)) at++;
            if (at == own.size()) {
                Due.fail("README.md has a row that is not here, or not in this order: " + row);
                break;
            }
            Matcher answer = ANSWER.matcher(row);
            if (answer.matches()) {
                answers++;
                Due.is(row, got.getOrDefault(answer.group(1), Integer.MIN_VALUE), Integer.parseInt(answer.group(2)));
            }
        }
        Due.is("README.md tells answers", answers, got.size());
        Due.close();
    }

    private static List<String> rowsOfReadme() throws IOException {
        List<String> rows = new ArrayList<>();
        boolean java = false;
        for (String line : Files.readAllLines(Path.of("README.md"))) {
            if (line.startsWith("```")) java = line.equals("```java");
            else if (java && !line.isBlank()) rows.add(line.strip());
        }
        return rows;
    }

    // In the order of README.md: its row of the tape stands between its two blocks of calls.
    private static void use() {
        RaceByLaps race = new RaceByLaps();
        race.track(3, 5);                              // three sectors, five laps
        race.sector(1, 30000, RaceByLaps.NONE);        // the second one is longer, and nobody passes there
        race.rain(0, 150000, 40);                      // the first one is wet from 150 seconds on
        race.flag(2, 60000, 90000, 0);                 // yellow in the third one for half a minute
        race.tyres(2, 4, 60);                          // tyres of kind 2 like it wet
        int red = race.car(0, 100, 2, 0, 0, 60);       // off, tank, burn, team, class, fuel
        int blue = race.car(-150, 100, 2, 1, 1, 60);
        race.tyre(red, 0, 0);                          // its set 0, with which it starts: kind 0, new
        race.tyre(red, 1, 0);
        race.tyre(blue, 0, 0);
        race.tyre(blue, 2, 3);
        race.stop(red, 1, 1, 20);                      // behind its second lap: set 1, 20 fuel
        race.order(blue, 3, 0, -1);                    // from its fourth lap on: mode -1
        int lap = race.at(red, 0, 2);                  // 70870: when it ended its first lap
        int first = race.led(2, 0);                    // 1: blue is first at the end of the third lap
        int place = race.place(red, 0);                // 1: in the result of day 0
        int best = race.best(red, 1, 0);               // 1: no other single stop of red gets a better place,
        int behind = race.row(0);                      // 3: but behind its fourth lap
        int set = race.row(1);                         // 0: and with the set that it has on, it ends earliest
        got.put("lap", lap);
        got.put("first", first);
        got.put("place", place);
        got.put("best", best);
        got.put("behind", behind);
        got.put("set", set);
        texts(race, red, blue);
    }

    static void tape(RaceByLaps race, String text) {
        for (int i = 0; i < text.length(); i += 4) {
            int v = 0;
            for (int j = i; j < i + 4; j++) {
                v = v << 8 | (j < text.length() ? text.charAt(j) : 0);
            }
            race.sign(v);
        }
        race.end(text.length());
    }

    private static void texts(RaceByLaps race, int red, int blue) {
        tape(race, "w>20&t=0:b1;:.");
        int taken = race.plan(blue);                   // 1: when it is wet, and no stop made, it stops for set 1
        int line = race.why(blue, 2);                  // 0: so it did behind its third lap
        tape(race, "k<2:+25");
        int rules = race.rule(3);                      // 1: from day 3 on 25 seconds for who had one kind of tyre alone
        tape(race, "k<2:25");
        int wrong = race.rule(3);                      // -5: it is none, as place 4 can't be a 2
        race.option(red, 1, 1);
        race.option(red, 2, 1);
        race.option(blue, 1, 1);
        race.option(blue, 2, 1);
        int pair = race.settle(red, blue, 0);          // 10: red its option 1, blue its option 0
        race.lost(0, true);                            // the line of the first sector tells no times
        int least = race.known(red, 2, 0, 0);          // 142740
        int most = race.known(red, 2, 0, 1);           // 210600
        got.put("taken", taken);
        got.put("line", line);
        got.put("rules", rules);
        got.put("wrong", wrong);
        got.put("pair", pair);
        got.put("least", least);
        got.put("most", most);
    }
}

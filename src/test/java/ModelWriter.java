import java.util.Random;

/** Writes random rules and plans: mostly right ones, some with a sign put wrong or cut short. */
final class ModelWriter {
    private final Random random;
    private final String letters;

    private ModelWriter(Random random, String letters) {
        this.random = random;
        this.letters = letters;
    }

    static String rule(Random random) {
        ModelWriter w = new ModelWriter(random, "skplwcoft");
        String text = w.condition() + ":" + (w.one(8) ? "X" : "+" + w.number(3));
        return w.spoilt(text);
    }

    static String plan(Random random) {
        ModelWriter w = new ModelWriter(random, "lrpafnokwvyth");
        StringBuilder text = new StringBuilder();
        for (int lines = w.one(3) ? 1 : 1 + random.nextInt(4); lines > 0; lines--) {
            if (!w.one(6)) text.append(w.condition());
            text.append(':');
            for (int acts = 1 + random.nextInt(3); acts > 0; acts--) text.append(w.act());
            if (lines > 1) text.append(';');
        }
        return w.spoilt(text.toString());
    }

    private boolean one(int in) { return random.nextInt(in) == 0; }

    private String number(int digits) {
        StringBuilder b = new StringBuilder();
        for (int i = 1 + random.nextInt(digits); i > 0; i--) b.append((char) ('0' + random.nextInt(10)));
        return b.toString();
    }

    private String act() {
        String acts = "+=-gh.bb";
        char a = acts.charAt(random.nextInt(acts.length()));
        return a == 'b' ? "b" + random.nextInt(4) : "" + a;
    }

    private String condition() {
        if (one(3)) return letters.charAt(random.nextInt(letters.length())) + "" + "<>=".charAt(random.nextInt(3)) + number(2);
        return expression(0, 1 + random.nextInt(3));
    }

    /** Levels as the document lists them: 0 |, 1 &, 2 comparing, 3 + -, 4 *, 5 ahead of a thing. */
    private String expression(int level, int size) {
        if (level > 5) {
            if (size > 0 && one(3)) return "(" + expression(0, size - 1) + ")";
            return one(3) ? number(one(3) ? 3 : 2) : "" + letters.charAt(random.nextInt(letters.length()));
        }
        String first = expression(level + 1, size);
        if (level == 5) return one(6) ? "!" + first : one(8) ? "-" + first : one(40) ? "!-!" + first : first;
        if (size == 0 || !one(4)) return first;
        String[] signs = {"|", "&", "<>=", "+-", "*"};
        StringBuilder b = new StringBuilder(first);
        for (int more = level == 2 ? 1 : 1 + random.nextInt(2); more > 0; more--) {
            b.append(signs[level].charAt(random.nextInt(signs[level].length()))).append(expression(level + 1, size - 1));
        }
        return b.toString();
    }

    private String spoilt(String text) {
        String all = "skplwcoftrhnyav0123456789+-*<>=&|!():;.bgXx \u00e9";
        StringBuilder b = new StringBuilder(text);
        if (one(6)) b.setCharAt(random.nextInt(b.length()), all.charAt(random.nextInt(all.length())));
        if (one(10)) b.insert(random.nextInt(b.length() + 1), all.charAt(random.nextInt(all.length())));
        if (one(12)) b.setLength(random.nextInt(b.length() + 1));
        if (one(12)) b.insert(0, "1+1*2-((3))+!0--7+".repeat(1 + random.nextInt(4)));
        if (b.length() > 96) b.setLength(60 + random.nextInt(36));
        return b.toString();
    }
}

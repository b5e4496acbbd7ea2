/** Rules, plans and conditions for the Model, by recursive descent. */
final class ModelText {
    private static final class Wrong extends RuntimeException {
        private static final long serialVersionUID = 1L;
    }

    private final String text;
    private final String letters;
    private final int[] values;
    private int p;

    private ModelText(String text, String letters, int[] values) {
        this.text = text;
        this.letters = letters;
        this.values = values;
    }

    static int value(String condition, int[] values) {
        return new ModelText(condition, "abcdefghijklmnopqrstuvwxyz", values).or();
    }

    static int wrongInRule(String text) { return wrong(text, false); }

    static int wrongInPlan(String text) { return wrong(text, true); }

    /** -1: none. A text that is too long is judged as if it went on as far as it likes. */
    private static int wrong(String text, boolean plan) {
        ModelText t = new ModelText(text, plan ? "lrpafnokwvyth" : "skplwcoft", new int[128]);
        try {
            if (plan) t.plan();
            else t.rule();
            if (t.p < text.length()) throw new Wrong();
        } catch (Wrong e) {
            return Math.min(t.p, 60);
        }
        return text.length() > 60 ? 60 : -1;
    }

    private char peek() { return p < text.length() ? text.charAt(p) : (char) 999; }

    private boolean eat(char c) {
        if (peek() != c) return false;
        p++;
        return true;
    }

    private void need(char c) {
        if (!eat(c)) throw new Wrong();
    }

    private void rule() {
        or();
        need(':');
        if (eat('X')) return;
        need('+');
        number();
    }

    private void plan() {
        do {
            if (peek() != ':') or();
            need(':');
            act();
            while (p < text.length() && peek() != ';') act();
        } while (eat(';'));
    }

    private void act() {
        if (eat('b')) {
            if (peek() < '0' || peek() > '3') throw new Wrong();
            p++;
        } else {
            if ("+=-gh.".indexOf(peek()) < 0) throw new Wrong();
            p++;
        }
    }

    private int number() {
        int v = 0, digits = 0;
        while (digits < 3 && peek() >= '0' && peek() <= '9') {
            v = v * 10 + text.charAt(p++) - '0';
            digits++;
        }
        if (digits == 0) throw new Wrong();
        return v;
    }

    private int or() {
        int v = and();
        while (eat('|')) v = (v != 0) | (and() != 0) ? 1 : 0;
        return v;
    }

    private int and() {
        int v = compare();
        while (eat('&')) v = (v != 0) & (compare() != 0) ? 1 : 0;
        return v;
    }

    private int compare() {
        int v = add();
        if (eat('<')) return v < add() ? 1 : 0;
        if (eat('>')) return v > add() ? 1 : 0;
        if (eat('=')) return v == add() ? 1 : 0;
        return v;
    }

    private int add() {
        int v = times();
        while (true) {
            if (eat('+')) v += times();
            else if (eat('-')) v -= times();
            else return v;
        }
    }

    private int times() {
        int v = thing();
        while (eat('*')) v *= thing();
        return v;
    }

    private int thing() {
        if (eat('!')) return thing() == 0 ? 1 : 0;
        if (eat('-')) return -thing();
        if (eat('(')) {
            int v = or();
            need(')');
            return v;
        }
        if (peek() >= '0' && peek() <= '9') return number();
        if (letters.indexOf(peek()) < 0) throw new Wrong();
        return values[text.charAt(p++)];
    }
}

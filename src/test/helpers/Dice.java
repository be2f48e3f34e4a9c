import java.util.Random;

/** Numbers, rows and LAWS for random runs; the same seed makes the same run. */
final class Dice {
    private final Random random;
    /** Of three times so many numbers some three can't stand where they are asked for. */
    private final int tame;

    Dice(long seed, int tame) {
        random = new Random(seed);
        this.tame = tame;
    }

    int any(int most) { return random.nextInt(most + 1); }

    int wild() { return random.nextInt(); }

    boolean oneOf(int many) { return any(many - 1) == 0; }

    /** Mostly a number that can stand there, now and then one that can't. */
    int about(int least, int most) {
        int dice = any(tame);
        if (dice == 0) return least - 1;
        if (dice == 1) return most + 1;
        if (dice == 2) return wild();
        return least + any(Math.max(0, most - least));
    }

    // ---- rows ----

    String letters(int size, int kinds) {
        StringBuilder s = new StringBuilder();
        for (int k = 0; k < size; k++) s.append((char) ('a' + any(kinds - 1)));
        return s.toString();
    }

    /** What is left of a row when all but so many are struck. */
    String leftOf(String row, int size) {
        StringBuilder s = new StringBuilder(row);
        while (s.length() > size) s.deleteCharAt(any(s.length() - 1));
        return s.toString();
    }

    String spoilt(String text) {
        if (!oneOf(10) || text.isEmpty()) return text;
        StringBuilder s = new StringBuilder(text);
        s.setCharAt(any(text.length() - 1), (char) any(255));
        return s.toString();
    }

    // ---- LAWS ----

    private String factor(int depth) {
        int dice = any(9);
        if (dice == 0 && depth > 0) return "[" + sum(depth - 1) + "]";
        if (dice < 4) return "" + (any(5) == 0 ? any(any(3) == 0 ? 999999 : 99999) : any(12));
        return "" + "liwmokdbfg".charAt(any(9));
    }

    private String term(int depth) {
        StringBuilder s = new StringBuilder(factor(depth));
        while (any(3) == 0) s.append("*/%".charAt(any(2))).append(factor(depth));
        return s.toString();
    }

    private String sum(int depth) {
        StringBuilder s = new StringBuilder(term(depth));
        while (any(3) == 0) s.append("+-".charAt(any(1))).append(term(depth));
        return s.toString();
    }

    private String piece(int depth) {
        int dice = any(7);
        if (dice == 0 && depth > 0) return "!" + piece(depth - 1);
        if (dice == 1 && depth > 0) return "(" + condition(depth - 1) + ")";
        return sum(depth) + "<>=".charAt(any(2)) + sum(depth);
    }

    private String condition(int depth) {
        StringBuilder s = new StringBuilder(piece(depth));
        while (any(2) == 0) s.append("|&".charAt(any(1))).append(piece(depth));
        return s.toString();
    }

    private String clause(int depth) {
        return any(2) == 0 ? "n(" + condition(depth) + ")" : "p" + sum(depth) + "(" + condition(depth) + ")";
    }

    /** Any TEXT, some with a FAULT. */
    String law() {
        StringBuilder s = new StringBuilder();
        int clauses = any(12) == 0 ? 13 : 1 + any(4);
        int depth = any(9) == 0 ? 9 : 3;
        for (int c = 0; c < clauses; c++) {
            String clause = clauses == 13 ? (any(1) == 0 ? "n(i=w)" : "p2(l=1)") : clause(depth);
            if (any(1) == 0 && clauses < 13) clause = clause.replace("n(", "n(k=" + any(7) + "&");
            s.append(c > 0 ? ";" : "").append(clause);
        }
        if (any(6) == 0) spoil(s);
        if (any(12) == 0) s.append(s.length() == 0 ? "" : ";").append(deep());
        if (s.length() == 0) s.append('n');
        return s.length() > 160 ? s.substring(0, 160) : s.toString();
    }

    private void spoil(StringBuilder s) {
        int at = any(s.length() - 1);
        String signs = "np()[]!&|<>=+-*/%;lx 0123456789~";
        int dice = any(2);
        if (dice == 0) s.deleteCharAt(at);
        else if (dice == 1) s.insert(at, signs.charAt(any(signs.length() - 1)));
        else s.setLength(at);
    }

    /** So many of ( [ ! in one another that the last may be one too many. */
    private String deep() {
        StringBuilder open = new StringBuilder("n(");
        StringBuilder close = new StringBuilder(")");
        int pieces = any(5);
        for (int k = 0; k < pieces; k++) {
            boolean not = any(1) == 0;
            open.append(not ? '!' : '(');
            close.insert(0, not ? "" : ")");
        }
        int factors = any(6 - pieces);
        return open + "[".repeat(factors) + "l" + "]".repeat(factors) + "=" + any(3) + close;
    }

    /** A LAW without a FAULT that forbids little and asks many prices. */
    String mildLaw() {
        String[] all = {"p" + any(9) + "+l(1=1)", "pi*" + any(30) + "%7(f=0|g=0)", "p[w+d]/[k-" + any(7) + "](l<" + any(3) + ")", "po*m-b(i>" + any(9) + ")",
            "n(k=" + any(7) + "&l=" + any(2) + ")", "n(f=1&g=1&k<" + any(3) + ")", "n(!(i>" + any(2) + "|d>k)&o=1)", "n(w=" + any(9) + ")"};
        StringBuilder s = new StringBuilder();
        for (int c = 1 + any(2); c >= 0; c--) s.append(s.length() == 0 ? "" : ";").append(all[any(all.length - 1)]);
        return s.toString();
    }
}

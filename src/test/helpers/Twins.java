import java.util.Arrays;
import java.util.Map;
import java.util.TreeMap;

/** The class and the slow office side by side: each call is asked of both, and the answers must be the same. */
final class Twins {
    private final StrikeOut fast = new StrikeOut();
    final SlowOffice slow = new SlowOffice();
    private final Dice dice;
    private final StringBuilder told = new StringBuilder();
    private int calls = 0;
    private boolean apart = false;
    /** How often each call gave each kind of answer, over all runs. */
    private static final Map<String, Integer> kinds = new TreeMap<>();

    Twins(Dice dice) { this.dice = dice; }

    int callsLeft() { return Office.MOST_CALLS - calls; }

    private void same(String name, long got, long want, int... given) {
        calls++;
        if (calls == Office.MOST_CALLS + 1) Due.fault("this test asks more than 512 calls of one object");
        String call = name + Arrays.toString(given).replace('[', '(').replace(']', ')');
        told.append(call).append(" -> ").append(got).append('\n');
        kinds.merge(name + " " + kind(want), 1, Integer::sum);
        Due.is(call, want, got);
        if (got != want && !apart) {
            apart = true;
            Due.note("after\n" + told);
        }
    }

    private void same(String name, boolean got, boolean want, int... given) { same(name, got ? 1 : 0, want ? 1 : 0, given); }

    /** A FAULT without its place; what is not refused is 0 or more. */
    private static String kind(long answer) {
        if (answer <= -1000) return "" + answer / 1000 * 1000;
        return answer < 0 ? "" + answer : answer == 0 ? "0" : "more";
    }

    static void mustHaveSeen(String name, String... answers) {
        for (String answer : answers) Due.is("runs in which " + name + "() answered " + answer + " at least once", true, kinds.containsKey(name + " " + answer));
    }

    // ---- the face ----

    void day(int d) { same("day", fast.day(d), slow.day(d), d); }

    void feed(int a, int b, int c, int d, int e) { same("feed", fast.feed(a, b, c, d, e), slow.feed(a, b, c, d, e), a, b, c, d, e); }

    void blank(int n) { same("blank", fast.blank(n), slow.blank(n), n); }

    void deed(int i, int n) { same("deed", fast.deed(i, n), slow.deed(i, n), i, n); }

    void law(int n) { same("law", fast.law(n), slow.law(n), n); }

    void left(int b, int place, int what) { same("left", fast.left(b, place, what), slow.left(b, place, what), b, place, what); }

    void may(int b, int place, int clerk, int what) {
        same("may", fast.may(b, place, clerk, what), slow.may(b, place, clerk, what), b, place, clerk, what);
    }

    void strike(int b, int place, int n, int clerk) {
        same("strike", fast.strike(b, place, n, clerk), slow.strike(b, place, n, clerk), b, place, n, clerk);
    }

    void back(int b) { same("back", fast.back(b), slow.back(b), b); }

    void book(int i, int what) { same("book", fast.book(i, what), slow.book(i, what), i, what); }

    void ways(int b, int i) { same("ways", fast.ways(b, i), slow.ways(b, i), b, i); }

    void cheapest(int b, int i, int clerk, int what) {
        same("cheapest", fast.cheapest(b, i, clerk, what), slow.cheapest(b, i, clerk, what), b, i, clerk, what);
    }

    void done(int b, int i, int clerk) { same("done", fast.done(b, i, clerk), slow.done(b, i, clerk), b, i, clerk); }

    void strokes(int b, int i, int w) { same("strokes", fast.strokes(b, i, w), slow.strokes(b, i, w), b, i, w); }

    void even(int b, int i, int w) { same("even", fast.even(b, i, w), slow.even(b, i, w), b, i, w); }

    void hidden(int deeds, int what) { same("hidden", fast.hidden(deeds, what), slow.hidden(deeds, what), deeds, what); }

    void shortest(int deeds, int what) { same("shortest", fast.shortest(deeds, what), slow.shortest(deeds, what), deeds, what); }

    void shortestMany(int deeds) { same("shortestMany", fast.shortestMany(deeds), slow.shortestMany(deeds), deeds); }

    void bound(int deeds) { same("bound", fast.bound(deeds), slow.bound(deeds), deeds); }

    void forged(int i) { same("forged", fast.forged(i), slow.forged(i), i); }

    void spare(int b, int deeds) { same("spare", fast.spare(b, deeds), slow.spare(b, deeds), b, deeds); }

    void dayEnd(int deeds, int what) { same("dayEnd", fast.dayEnd(deeds, what), slow.dayEnd(deeds, what), deeds, what); }

    void worth(int b, int deeds, int what) { same("worth", fast.worth(b, deeds, what), slow.worth(b, deeds, what), b, deeds, what); }

    void family(int b, int deeds, int w, int what) {
        same("family", fast.family(b, deeds, w, what), slow.family(b, deeds, w, what), b, deeds, w, what);
    }

    void chain(int b, int what) { same("chain", fast.chain(b, what), slow.chain(b, what), b, what); }

    void seed(int x) { same("seed", fast.seed(x), slow.seed(x), x); }

    void draw(int b, int n) { same("draw", fast.draw(b, n), slow.draw(b, n), b, n); }

    void check(int b, int n) { same("check", fast.check(b, n), slow.check(b, n), b, n); }

    void count(int what) { same("count", fast.count(what), slow.count(what), what); }

    // ---- by texts ----

    /** In twenties; what fills the last of them is anything. */
    void feed(String text) {
        for (int at = 0; at < text.length(); at += 20) {
            int[] n = new int[5];
            for (int k = 0; k < 20; k++) n[k / 4] = n[k / 4] << 8 | (at + k < text.length() ? text.charAt(at + k) : dice.any(255));
            feed(n[0], n[1], n[2], n[3], n[4]);
        }
    }

    void blank(String text) {
        feed(text);
        blank(text.length());
    }

    void deed(int i, String text) {
        feed(text);
        deed(i, text.length());
    }

    void law(String text) {
        feed(text);
        law(text.length());
    }

    /** The counts and, till the calls are used up, THE BOOK. */
    void countAll() {
        for (int what = -1; what < 30 && callsLeft() > 0; what++) count(what);
        for (int i = 0; i < slow.count(5) && callsLeft() >= 20; i++) for (int what = 0; what < 20; what++) book(i, what);
    }
}

/**
 * One StrikeOut whose calls are counted: what it answers behind its 512th call is free,
 * so a test that asks more than that of one object is itself at fault.
 */
final class Office {
    static final int MOST_CALLS = 512;

    private final StrikeOut office = new StrikeOut();
    private final boolean endless;
    private int calls = 0;

    Office() { this(false); }

    /** Endless only where no answer is looked at: no call may throw, whenever it comes. */
    Office(boolean endless) { this.endless = endless; }

    private StrikeOut ask() {
        calls++;
        if (calls == MOST_CALLS + 1 && !endless) Due.fault("this test asks more than 512 calls of one object");
        return office;
    }

    int calls() { return calls; }

    // ---- the face ----

    boolean day(int d) { return ask().day(d); }

    int feed(int a, int b, int c, int d, int e) { return ask().feed(a, b, c, d, e); }

    int blank(int n) { return ask().blank(n); }

    int deed(int i, int n) { return ask().deed(i, n); }

    int law(int n) { return ask().law(n); }

    int left(int b, int place, int what) { return ask().left(b, place, what); }

    int may(int b, int place, int clerk, int what) { return ask().may(b, place, clerk, what); }

    int strike(int b, int place, int n, int clerk) { return ask().strike(b, place, n, clerk); }

    int back(int b) { return ask().back(b); }

    int book(int i, int what) { return ask().book(i, what); }

    long ways(int b, int i) { return ask().ways(b, i); }

    int cheapest(int b, int i, int clerk, int what) { return ask().cheapest(b, i, clerk, what); }

    int done(int b, int i, int clerk) { return ask().done(b, i, clerk); }

    int strokes(int b, int i, int w) { return ask().strokes(b, i, w); }

    long even(int b, int i, int w) { return ask().even(b, i, w); }

    int hidden(int deeds, int what) { return ask().hidden(deeds, what); }

    int shortest(int deeds, int what) { return ask().shortest(deeds, what); }

    long shortestMany(int deeds) { return ask().shortestMany(deeds); }

    int bound(int deeds) { return ask().bound(deeds); }

    int forged(int i) { return ask().forged(i); }

    long spare(int b, int deeds) { return ask().spare(b, deeds); }

    int dayEnd(int deeds, int what) { return ask().dayEnd(deeds, what); }

    int worth(int b, int deeds, int what) { return ask().worth(b, deeds, what); }

    int family(int b, int deeds, int w, int what) { return ask().family(b, deeds, w, what); }

    int chain(int b, int what) { return ask().chain(b, what); }

    boolean seed(int x) { return ask().seed(x); }

    int draw(int b, int n) { return ask().draw(b, n); }

    int check(int b, int n) { return ask().check(b, n); }

    int count(int what) { return ask().count(what); }

    // ---- by texts ----

    /** In twenties; what fills the last of them is no LETTER and no sign of a LAW. */
    void feed(String text) {
        for (int at = 0; at < text.length(); at += 20) {
            int[] n = new int[5];
            for (int k = 0; k < 20; k++) n[k / 4] = n[k / 4] << 8 | (at + k < text.length() ? text.charAt(at + k) : '?');
            feed(n[0], n[1], n[2], n[3], n[4]);
        }
    }

    int blank(String text) {
        feed(text);
        return blank(text.length());
    }

    int deed(int i, String text) {
        feed(text);
        return deed(i, text.length());
    }

    int law(String text) {
        feed(text);
        return law(text.length());
    }

    /** Numbers of four bytes each, in fives; what fills the last of them is 77. */
    void numbers(int... all) {
        for (int at = 0; at < all.length; at += 5) {
            int[] n = {77, 77, 77, 77, 77};
            for (int k = 0; k < 5 && at + k < all.length; k++) n[k] = all[at + k];
            feed(n[0], n[1], n[2], n[3], n[4]);
        }
    }

    /** What is LEFT of a BLANK. */
    String rest(int b) {
        StringBuilder s = new StringBuilder();
        int size = count(10 + b);
        for (int place = 0; place < size; place++) s.append((char) ('a' + left(b, place, 0)));
        return s.toString();
    }

    /** The row that what() finds letter by letter, -1 being its length. */
    String hiddenRow(int deeds) {
        StringBuilder s = new StringBuilder();
        int size = hidden(deeds, -1);
        for (int k = 0; k < size; k++) s.append((char) ('a' + hidden(deeds, k)));
        return s.toString();
    }

    String shortestRow(int deeds) {
        StringBuilder s = new StringBuilder();
        int size = shortest(deeds, -1);
        for (int k = 0; k < size; k++) s.append((char) ('a' + shortest(deeds, k)));
        return s.toString();
    }
}

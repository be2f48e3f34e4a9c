import java.math.BigInteger;
import java.util.Arrays;
import java.util.HashMap;
import java.util.Map;
import java.util.Random;

/**
 * Rows as long as they can be: BLANKS of 40 LETTERS, DEEDS of 16 (of 12 for THE SHORTEST), too long to try everything.
 * Each answer is held against a reckoning of another kind than the class's: whole texts instead of lengths, BigIntegers,
 * words letter by letter instead of states that some LETTER leads on.
 */
public final class LargeTest {
    private static Random random = new Random(1);
    private static Office x = new Office();

    private static String letters(int size, int kinds) {
        StringBuilder s = new StringBuilder();
        for (int k = 0; k < size; k++) s.append((char) ('a' + random.nextInt(kinds)));
        return s.toString();
    }

    /** A row that COMES from another. */
    private static String partOf(String row, int size) {
        StringBuilder s = new StringBuilder(row);
        while (s.length() > size) s.deleteCharAt(random.nextInt(s.length()));
        return s.toString();
    }

    // ---- a DEED out of a BLANK ----

    private static BigInteger ways(String row, String deed) {
        BigInteger[] ends = new BigInteger[deed.length() + 1];
        Arrays.fill(ends, BigInteger.ZERO);
        ends[0] = BigInteger.ONE;
        for (char c : row.toCharArray())
            for (int j = deed.length(); j > 0; j--) if (deed.charAt(j - 1) == c) ends[j] = ends[j].add(ends[j - 1]);
        return ends[deed.length()];
    }

    /** By gaps, from the front: how many CHOICES have each gap a multiple of w. */
    private static BigInteger even(String row, String deed, int w, int from, int j, Map<Integer, BigInteger> known) {
        if (j == deed.length()) return (row.length() - from) % w == 0 ? BigInteger.ONE : BigInteger.ZERO;
        int key = from * 17 + j;
        if (known.containsKey(key)) return known.get(key);
        BigInteger sum = BigInteger.ZERO;
        for (int at = from; at < row.length(); at += w)
            if (row.charAt(at) == deed.charAt(j)) sum = sum.add(even(row, deed, w, at + 1, j + 1, known));
        known.put(key, sum);
        return sum;
    }

    private static int strokes(String row, String deed, int w, int from, int j, Map<Integer, Integer> known) {
        if (j == deed.length()) return (row.length() - from + w - 1) / w;
        int key = from * 17 + j;
        if (known.containsKey(key)) return known.get(key);
        int fewest = 1000;
        for (int at = from; at < row.length(); at++)
            if (row.charAt(at) == deed.charAt(j)) fewest = Math.min(fewest, (at - from + w - 1) / w + strokes(row, deed, w, at + 1, j + 1, known));
        known.put(key, fewest);
        return fewest;
    }

    /** The price and the row of places, as a text that sorts as they do; null if it can't be. */
    private static String cheapest(String row, String deed, int[] price, int at, int j, Map<Integer, String> known) {
        if (at == row.length()) return j == deed.length() ? "00000:" : null;
        int key = at * 17 + j;
        if (known.containsKey(key)) return known.get(key);
        String best = null;
        if (j < deed.length() && row.charAt(at) == deed.charAt(j)) {
            String rest = cheapest(row, deed, price, at + 1, j + 1, known);
            if (rest != null) best = rest.substring(0, 6) + (char) ('A' + at) + rest.substring(6);
        }
        if (price[at] >= 0) {
            String rest = cheapest(row, deed, price, at + 1, j, known);
            if (rest != null) {
                String other = String.format("%05d:", Integer.parseInt(rest.substring(0, 5)) + price[at]) + rest.substring(6);
                if (best == null || other.compareTo(best) < 0) best = other;
            }
        }
        known.put(key, best);
        return best;
    }

    private static void deedOfBlank(int run) {
        random = new Random(run);
        x = new Office();
        Due.sentence("BLANKS of 40, DEEDS of 16, run " + run);
        int kinds = 1 + random.nextInt(4);
        String row = letters(40, kinds);
        x.blank(row);
        x.law("n(w%7=" + random.nextInt(7) + "&l=" + random.nextInt(4) + ");pw*l%9+k(1=1)");
        if (run % 3 == 0) {
            x.strike(0, random.nextInt(30), 1 + random.nextInt(4), 0);
            row = x.rest(0);
        }
        String deed = random.nextInt(4) == 0 ? letters(16, kinds) : partOf(row, 16 - random.nextInt(2));
        x.deed(0, deed);
        boolean comes = ways(row, deed).signum() > 0;
        Due.is("ways", ways(row, deed).longValueExact(), x.ways(0, 0));
        for (int w = 1; w <= 9; w++) {
            Due.is("strokes of " + w, comes ? strokes(row, deed, w, 0, 0, new HashMap<>()) : -2, x.strokes(0, 0, w));
            Due.is("even of " + w, even(row, deed, w, 0, 0, new HashMap<>()).longValueExact(), x.even(0, 0, w));
        }
        int clerk = random.nextInt(8);
        int[] price = new int[row.length()];
        for (int at = 0; at < price.length; at++) price[at] = x.may(0, at, clerk, 0) == 1 ? x.may(0, at, clerk, 1) : -1;
        String best = cheapest(row, deed, price, 0, 0, new HashMap<>());
        Due.is("cheapest", best == null ? -2 : Integer.parseInt(best.substring(0, 5)), x.cheapest(0, 0, clerk, -1));
        for (int k = 0; k < deed.length(); k++) Due.is("place " + k, best == null ? -2 : best.charAt(6 + k) - 'A', x.cheapest(0, 0, clerk, k));
        int done = x.done(0, 0, clerk);
        Due.is("done", best != null, done >= 0);
        if (best != null) {
            Due.is("what is LEFT is the DEED", true, deed.equals(x.rest(0)));
            Due.is("what it cost", Integer.parseInt(best.substring(0, 5)), cost(done));
        }
    }

    private static int cost(int strokes) {
        int all = x.count(5);
        int sum = 0;
        for (int i = all - strokes; i < all; i++) sum += x.book(i, 3);
        return sum;
    }

    // ---- several DEEDS ----

    private static String longer(String a, String b) {
        if (a.length() != b.length()) return a.length() > b.length() ? a : b;
        return a.compareTo(b) <= 0 ? a : b;
    }

    /** The texts themselves, of three rows from three places on. */
    private static String hidden(String a, String b, String c, int i, int j, int k, String[] known) {
        if (i == a.length() || j == b.length() || k == c.length()) return "";
        int key = (i * 17 + j) * 17 + k;
        if (known[key] != null) return known[key];
        String best = longer(hidden(a, b, c, i + 1, j, k, known), longer(hidden(a, b, c, i, j + 1, k, known), hidden(a, b, c, i, j, k + 1, known)));
        if (a.charAt(i) == b.charAt(j) && a.charAt(i) == c.charAt(k)) best = longer(a.charAt(i) + hidden(a, b, c, i + 1, j + 1, k + 1, known), best);
        known[key] = best;
        return best;
    }

    private static void hidden(int run) {
        random = new Random(1000 + run);
        x = new Office();
        Due.sentence("HIDDEN in DEEDS of 16, run " + run);
        int kinds = 1 + random.nextInt(5);
        String[] deeds = new String[3];
        for (int i = 0; i < 3; i++) {
            deeds[i] = letters(16 - random.nextInt(2), kinds);
            x.deed(i, deeds[i]);
        }
        int[] sets = {3, 5, 6, 7};
        int[][] of = {{0, 1, 1}, {0, 2, 2}, {1, 2, 2}, {0, 1, 2}};
        for (int s = 0; s < 4; s++) {
            String want = hidden(deeds[of[s][0]], deeds[of[s][1]], deeds[of[s][2]], 0, 0, 0, new String[17 * 17 * 17]);
            Due.is("hidden in " + sets[s] + ", " + want, true, want.equals(x.hiddenRow(sets[s])));
        }
    }

    private static int step(String[] deeds, int[] at, char c) {
        int state = 0;
        for (int d = 0; d < deeds.length; d++) state = state * 13 + at[d] + (at[d] < deeds[d].length() && deeds[d].charAt(at[d]) == c ? 1 : 0);
        return state;
    }

    private static int[] places(int state, int many) {
        int[] at = new int[many];
        for (int d = many - 1; d >= 0; d--) { at[d] = state % 13; state /= 13; }
        return at;
    }

    /** By words letter by letter, of any LETTER that is in one of the DEEDS: sets of states that so many LETTERS can reach. */
    private static void shortest(int run, int many, int size, int kinds) {
        random = new Random(2000 + run);
        x = new Office();
        Due.sentence("THE SHORTEST of DEEDS of 12, run " + run);
        String[] deeds = new String[many];
        int goal = 0;
        for (int d = 0; d < many; d++) {
            deeds[d] = letters(size, kinds);
            x.deed(d, deeds[d]);
            goal = goal * 13 + size;
        }
        Map<Integer, BigInteger> words = new HashMap<>();
        words.put(0, BigInteger.ONE);
        int length = 0;
        while (!words.containsKey(goal)) {
            Map<Integer, BigInteger> next = new HashMap<>();
            for (Map.Entry<Integer, BigInteger> e : words.entrySet()) {
                int[] at = places(e.getKey(), many);
                for (char c = 'a'; c < 'a' + kinds; c++) {
                    int to = step(deeds, at, c);
                    // a LETTER of no use only makes a word longer
                    if (to != e.getKey()) next.merge(to, e.getValue(), BigInteger::add);
                }
            }
            words = next;
            length++;
        }
        int bits = (1 << many) - 1;
        Due.is("how long", length, x.shortest(bits, -1));
        Due.is("how many", words.get(goal).longValue(), x.shortestMany(bits));
        String row = x.shortestRow(bits);
        Due.is("its size", length, row.length());
        for (String deed : deeds) Due.is(deed + " COMES from " + row, true, ways(row, deed).signum() > 0);
        first(deeds, row, kinds);
    }

    /** No word of that size that comes ahead of the row hides them all: none with a lower LETTER at any place. */
    private static void first(String[] deeds, String row, int kinds) {
        int[] at = new int[deeds.length];
        for (int k = 0; k < row.length(); k++) {
            for (char c = 'a'; c < row.charAt(k); c++) {
                int[] other = places(step(deeds, at, c), deeds.length);
                Due.is("a lower LETTER at " + k, true, fewest(deeds, other, new HashMap<>(), kinds) > row.length() - k - 1);
            }
            at = places(step(deeds, at, row.charAt(k)), deeds.length);
        }
    }

    private static int fewest(String[] deeds, int[] at, Map<Integer, Integer> known, int kinds) {
        int state = step(deeds, at, ' ');
        if (known.containsKey(state)) return known.get(state);
        int best = 1000;
        boolean end = true;
        for (char c = 'a'; c < 'a' + kinds; c++) {
            int to = step(deeds, at, c);
            if (to != state) {
                end = false;
                best = Math.min(best, 1 + fewest(deeds, places(to, deeds.length), known, kinds));
            }
        }
        known.put(state, end ? 0 : best);
        return known.get(state);
    }

    /** Four DEEDS of 12 with no LETTER in common: more rows than 64 bits hold, what is left of them is due. */
    private static void beyondLongs() {
        x = new Office();
        Due.sentence("how many THE SHORTEST there are: 48 LETTERS by twelves");
        for (int i = 0; i < 4; i++) x.deed(i, ("" + (char) ('a' + i)).repeat(12));
        BigInteger many = BigInteger.ONE;
        for (int k = 1; k <= 48; k++) many = many.multiply(BigInteger.valueOf(k));
        for (int i = 0; i < 4; i++) for (int k = 1; k <= 12; k++) many = many.divide(BigInteger.valueOf(k));
        Due.is("the lowest 64 bits", many.longValue(), x.shortestMany(15));
    }

    public static void main(String[] args) {
        for (int run = 1; run <= 120; run++) deedOfBlank(run);
        for (int run = 1; run <= 60; run++) hidden(run);
        for (int run = 1; run <= 12; run++) shortest(run, 2, 12, 1 + run % 5);
        for (int run = 13; run <= 20; run++) shortest(run, 3, 12, 2 + run % 3);
        for (int run = 21; run <= 23; run++) shortest(run, 4, 12, 2 + run % 2);
        beyondLongs();
        Due.end();
    }
}

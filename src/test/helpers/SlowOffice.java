import java.util.ArrayDeque;
import java.util.ArrayList;
import java.util.Arrays;
import java.util.Comparator;
import java.util.List;
import java.util.TreeSet;

/**
 * The office as the document tells it, slow: it tries all sets of LETTERS, all words, all ways to share,
 * where the class reckons with tables. Nothing here is the class's.
 */
final class SlowOffice {
    /** A C or an E of a LAW; a division by 0 throws. */
    private interface Node { int eval(int[] names); }

    /** The law's TEXT, judged by a machine of states and read by a parser that has nothing of the class's. */
    private static final class SlowLaw {
        final List<Character> kinds = new ArrayList<>();
        final List<Node> prices = new ArrayList<>();
        final List<Node> conditions = new ArrayList<>();
        private String t = "";
        private int p = 0;

        static int judge(String t) {
            int clauses = 0;
            int digits = 0;
            int side = 0;
            ArrayDeque<Character> open = new ArrayDeque<>();
            ArrayDeque<Integer> sides = new ArrayDeque<>();
            String state = "clause";
            for (int at = 0; at <= t.length(); at++) {
                boolean end = at == t.length();
                char c = end ? 0 : t.charAt(at);
                int wrongHere = -1000 - at;
                if (end) return state.equals("between") ? clauses : wrongHere;
                if (state.equals("number")) {
                    if (c >= '0' && c <= '9') {
                        if (++digits > 5) return -2000 - at;
                        continue;
                    }
                    state = "factorEnd";
                }
                switch (state) {
                    case "clause":
                        if (c != 'n' && c != 'p') return wrongHere;
                        if (++clauses > 12) return -4000 - at;
                        state = c == 'n' ? "open" : "factor";
                        side = 0;
                        break;
                    case "open":
                        if (c != '(') return wrongHere;
                        open.push('(');
                        state = "piece";
                        break;
                    case "piece":
                        if (c == '(' || c == '!') {
                            if (open.size() == 6) return -5000 - at;
                            open.push(c);
                            break;
                        }
                        side = 1;
                        // falls to a factor
                    case "factor":
                        if (c == '[') {
                            if (open.size() == 6) return -5000 - at;
                            open.push(c);
                            sides.push(side);
                            state = "factor";
                        } else if (c >= '0' && c <= '9') {
                            digits = 1;
                            state = "number";
                        } else if ("liwmokdbfg".indexOf(c) >= 0) {
                            state = "factorEnd";
                        } else return wrongHere;
                        break;
                    case "factorEnd":
                        boolean inside = !open.isEmpty() && open.peek() == '[';
                        if ("+-*/%".indexOf(c) >= 0) {
                            state = "factor";
                        } else if (inside) {
                            if (c != ']') return wrongHere;
                            open.pop();
                            side = sides.pop();
                        } else if (side == 0) {
                            if (c != '(') return wrongHere;
                            open.push('(');
                            state = "piece";
                        } else if (side == 1) {
                            if ("<>=".indexOf(c) < 0) return wrongHere;
                            side = 2;
                            state = "factor";
                        } else {
                            while (open.peek() == '!') open.pop();
                            if (c == '&' || c == '|') state = "piece";
                            else if (c == ')') { open.pop(); state = open.isEmpty() ? "between" : "pieceEnd"; }
                            else return wrongHere;
                        }
                        break;
                    case "pieceEnd":
                        while (open.peek() == '!') open.pop();
                        if (c == '&' || c == '|') state = "piece";
                        else if (c == ')') { open.pop(); state = open.isEmpty() ? "between" : "pieceEnd"; }
                        else return wrongHere;
                        break;
                    default:
                        if (c != ';') return wrongHere;
                        state = "clause";
                }
            }
            return 0;
        }

        /** Only for a TEXT without a FAULT. */
        SlowLaw(String text) {
            t = text;
            while (p < t.length()) {
                char kind = t.charAt(p++);
                kinds.add(kind);
                prices.add(kind == 'p' ? sum() : null);
                p++;
                conditions.add(either());
                p += 2;
            }
        }

        private char now() { return p < t.length() ? t.charAt(p) : 0; }

        private Node either() {
            Node a = both();
            if (now() != '|') return a;
            p++;
            Node rest = either();
            return v -> a.eval(v) != 0 ? 1 : rest.eval(v);
        }

        private Node both() {
            Node a = piece();
            if (now() != '&') return a;
            p++;
            Node rest = both();
            return v -> a.eval(v) == 0 ? 0 : rest.eval(v);
        }

        private Node piece() {
            if (now() == '!') { p++; Node a = piece(); return v -> 1 - a.eval(v); }
            if (now() == '(') { p++; Node a = either(); p++; return a; }
            Node a = sum();
            char c = t.charAt(p++);
            Node b = sum();
            return v -> { int x = a.eval(v); int y = b.eval(v); return (c == '<' ? x < y : c == '>' ? x > y : x == y) ? 1 : 0; };
        }

        private Node sum() {
            Node a = term();
            while (now() == '+' || now() == '-') {
                char c = t.charAt(p++);
                Node x = a;
                Node y = term();
                a = v -> { int m = x.eval(v); int n = y.eval(v); return c == '+' ? m + n : m - n; };
            }
            return a;
        }

        private Node term() {
            Node a = factor();
            while (now() == '*' || now() == '/' || now() == '%') {
                char c = t.charAt(p++);
                Node x = a;
                Node y = factor();
                a = v -> { int m = x.eval(v); int n = y.eval(v); return c == '*' ? m * n : c == '/' ? m / n : m % n; };
            }
            return a;
        }

        private Node factor() {
            char c = t.charAt(p++);
            if (c == '[') { Node a = sum(); p++; return a; }
            if (Character.isDigit(c)) {
                int from = p - 1;
                while (Character.isDigit(now())) p++;
                int value = Integer.parseInt(t.substring(from, p));
                return v -> value;
            }
            return v -> v[c];
        }

        static int safely(Node node, int[] names) {
            try { return node.eval(names); } catch (ArithmeticException divided) { return 0; }
        }
    }

    private static final class SlowBlank {
        String written = "";
        final List<Integer> left = new ArrayList<>();
        String rest() {
            StringBuilder s = new StringBuilder();
            for (int n : left) s.append(written.charAt(n));
            return s.toString();
        }
    }

    private static final class SlowStroke {
        int blank, clerk, day, cost;
        List<Integer> numbers = new ArrayList<>();
    }

    final List<Integer> tape = new ArrayList<>();
    final List<SlowBlank> blanks = new ArrayList<>();
    final String[] deeds = new String[8];
    SlowLaw law = new SlowLaw("");
    final List<SlowStroke> book = new ArrayList<>();
    int day = 0;
    int x = 1;

    boolean isB(int b) { return b >= 0 && b < blanks.size(); }
    boolean isD(int i) { return i >= 0 && i < 8 && deeds[i] != null; }
    boolean areD(int bits) {
        if (bits < 0 || bits > 255) return false;
        for (int i = 0; i < 8; i++) if ((bits >> i & 1) == 1 && deeds[i] == null) return false;
        return true;
    }
    List<Integer> list(int bits) {
        List<Integer> all = new ArrayList<>();
        for (int i = 0; i < 8; i++) if ((bits >> i & 1) == 1) all.add(i);
        return all;
    }

    boolean day(int d) { if (d < 0 || d > 999 || d < day) return false; day = d; return true; }
    int feed(int... numbers) {
        if (tape.size() + 20 > 200) return -1;
        for (int n : numbers) for (int k = 3; k >= 0; k--) tape.add(n >> 8 * k & 255);
        return tape.size();
    }
    String taken(int n) {
        StringBuilder s = new StringBuilder();
        for (int k = 0; k < n; k++) s.append((char) (int) tape.get(k));
        tape.clear();
        return s.toString();
    }
    int blank(int n) {
        if (n < 1 || n > 40 || blanks.size() == 8 || tape.size() < n) return -1;
        String s = taken(n);
        if (!s.matches("[a-z]+")) return -2;
        SlowBlank blank = new SlowBlank();
        blank.written = s;
        for (int k = 0; k < n; k++) blank.left.add(k);
        blanks.add(blank);
        return blanks.size() - 1;
    }
    int deed(int i, int n) {
        if (i < 0 || i > 7 || n < 1 || n > 16 || tape.size() < n) return -1;
        String s = taken(n);
        if (!s.matches("[a-z]+")) return -2;
        deeds[i] = s;
        return n;
    }
    int law(int n) {
        if (n < 1 || n > 160 || tape.size() < n) return -1;
        String s = taken(n);
        int verdict = SlowLaw.judge(s);
        if (verdict > 0) law = new SlowLaw(s);
        return verdict;
    }
    int left(int b, int place, int what) {
        if (!isB(b) || place < 0 || place >= blanks.get(b).left.size() || what < 0 || what > 1) return -1;
        return what == 1 ? blanks.get(b).left.get(place) : blanks.get(b).rest().charAt(place) - 'a';
    }
    int[] names(int b, int place, int clerk) {
        SlowBlank blank = blanks.get(b);
        int number = blank.left.get(place);
        char letter = blank.written.charAt(number);
        int[] v = new int[128];
        v['l'] = letter - 'a';
        v['i'] = place;
        v['w'] = number;
        v['m'] = blank.left.size();
        v['o'] = (int) blank.rest().chars().filter(c -> c == letter).count();
        v['k'] = clerk;
        v['d'] = day;
        v['b'] = b;
        v['f'] = number == 0 || !blank.left.contains(number - 1) ? 1 : 0;
        v['g'] = number == blank.written.length() - 1 || !blank.left.contains(number + 1) ? 1 : 0;
        return v;
    }
    boolean allowed(int b, int place, int clerk) {
        for (int c = 0; c < law.kinds.size(); c++)
            if (law.kinds.get(c) == 'n' && SlowLaw.safely(law.conditions.get(c), names(b, place, clerk)) != 0) return false;
        return true;
    }
    int price(int b, int place, int clerk) {
        for (int c = 0; c < law.kinds.size(); c++)
            if (law.kinds.get(c) == 'p' && SlowLaw.safely(law.conditions.get(c), names(b, place, clerk)) != 0)
                return Math.max(0, Math.min(99, SlowLaw.safely(law.prices.get(c), names(b, place, clerk))));
        return 1;
    }
    int may(int b, int place, int clerk, int what) {
        if (left(b, place, 0) < 0 || clerk < 0 || clerk > 7 || what < 0 || what > 1) return -1;
        return what == 1 ? price(b, place, clerk) : allowed(b, place, clerk) ? 1 : 0;
    }
    void write(int b, List<Integer> numbers, int clerk, int cost) {
        SlowStroke s = new SlowStroke();
        s.blank = b;
        s.clerk = clerk;
        s.day = day;
        s.cost = cost;
        s.numbers = new ArrayList<>(numbers);
        book.add(s);
        blanks.get(b).left.removeAll(numbers);
    }
    int strike(int b, int place, int n, int clerk) {
        if (left(b, place, 0) < 0 || n < 1 || n > 9 || clerk < 0 || clerk > 7) return -1;
        if (place + n > blanks.get(b).left.size()) return -1;
        int cost = 0;
        for (int q = place; q < place + n; q++) {
            if (!allowed(b, q, clerk)) return -2;
            cost += price(b, q, clerk);
        }
        if (book.size() == 60) return -3;
        write(b, new ArrayList<>(blanks.get(b).left.subList(place, place + n)), clerk, cost);
        return cost;
    }
    int back(int b) {
        for (int i = book.size() - 1; i >= 0; i--) {
            SlowStroke s = book.get(i);
            if (s.blank == b) {
                book.remove(i);
                blanks.get(b).left.addAll(s.numbers);
                blanks.get(b).left.sort(null);
                return s.numbers.size();
            }
        }
        return -1;
    }
    int book(int i, int what) {
        if (i < 0 || i >= book.size()) return -1000;
        SlowStroke s = book.get(i);
        if (what >= 10 && what - 10 < s.numbers.size()) return s.numbers.get(what - 10);
        int[] told = {s.blank, s.clerk, s.day, s.cost, s.numbers.size()};
        return what >= 0 && what < 5 ? told[what] : -1000;
    }
    /** All CHOICES as rows of the places that stay, the least first. */
    static List<int[]> choices(String row, String deed) {
        List<int[]> all = new ArrayList<>();
        choices(row, deed, 0, new int[deed.length()], 0, all);
        return all;
    }
    static void choices(String row, String deed, int j, int[] stays, int from, List<int[]> all) {
        if (j == deed.length()) { all.add(stays.clone()); return; }
        for (int q = from; q < row.length(); q++)
            if (row.charAt(q) == deed.charAt(j)) { stays[j] = q; choices(row, deed, j + 1, stays, q + 1, all); }
    }
    static boolean comes(String row, String deed) {
        int j = 0;
        for (char c : row.toCharArray()) if (j < deed.length() && deed.charAt(j) == c) j++;
        return j == deed.length();
    }
    long ways(int b, int i) { return isB(b) && isD(i) ? choices(blanks.get(b).rest(), deeds[i]).size() : -1; }

    int bestPrice;
    int[] best(int b, int i, int clerk) {
        String row = blanks.get(b).rest();
        int[] best = null;
        for (int[] stays : choices(row, deeds[i])) {
            int sum = 0;
            boolean can = true;
            for (int q = 0; q < row.length(); q++) {
                if (Arrays.binarySearch(stays, q) >= 0) continue;
                can &= allowed(b, q, clerk);
                sum += price(b, q, clerk);
            }
            if (can && (best == null || sum < bestPrice)) { best = stays; bestPrice = sum; }
        }
        return best;
    }
    int cheapest(int b, int i, int clerk, int what) {
        if (!isB(b) || !isD(i) || clerk < 0 || clerk > 7 || what < -1 || what >= deeds[i].length()) return -1;
        int[] best = best(b, i, clerk);
        return best == null ? -2 : what == -1 ? bestPrice : best[what];
    }
    int done(int b, int i, int clerk) {
        if (!isB(b) || !isD(i) || clerk < 0 || clerk > 7) return -1;
        int[] best = best(b, i, clerk);
        if (best == null) return -2;
        List<List<Integer>> cuts = new ArrayList<>();
        List<Integer> cut = new ArrayList<>();
        for (int q = blanks.get(b).left.size() - 1; q >= -1; q--) {
            boolean stays = q < 0 || Arrays.binarySearch(best, q) >= 0;
            if ((stays || cut.size() == 9) && !cut.isEmpty()) { cuts.add(cut); cut = new ArrayList<>(); }
            if (!stays) cut.add(0, q);
        }
        if (book.size() + cuts.size() > 60) return -3;
        List<List<Integer>> numbers = new ArrayList<>();
        List<Integer> costs = new ArrayList<>();
        for (List<Integer> places : cuts) {
            List<Integer> own = new ArrayList<>();
            int cost = 0;
            for (int q : places) { own.add(blanks.get(b).left.get(q)); cost += price(b, q, clerk); }
            numbers.add(own);
            costs.add(cost);
        }
        for (int k = 0; k < cuts.size(); k++) write(b, numbers.get(k), clerk, costs.get(k));
        return cuts.size();
    }
    /** Strokes from every set of what is left, one after another: how many each set takes. */
    static int[] sets(int size, int least, int most) {
        int[] steps = new int[1 << size];
        Arrays.fill(steps, -1);
        int full = (1 << size) - 1;
        steps[full] = 0;
        ArrayDeque<Integer> queue = new ArrayDeque<>(List.of(full));
        while (!queue.isEmpty()) {
            int set = queue.poll();
            for (int from = 0; from < size; from++) {
                if ((set >> from & 1) == 0) continue;
                int after = set;
                int n = 0;
                for (int q = from; q < size && n < most; q++) {
                    if ((set >> q & 1) == 0) continue;
                    after &= ~(1 << q);
                    n++;
                    if (n >= least && steps[after] < 0) { steps[after] = steps[set] + 1; queue.add(after); }
                }
            }
        }
        return steps;
    }
    static String spelt(String row, int set) {
        StringBuilder s = new StringBuilder();
        for (int q = 0; q < row.length(); q++) if ((set >> q & 1) == 1) s.append(row.charAt(q));
        return s.toString();
    }
    static int fewest(String row, String deed, int w) {
        int fewest = Integer.MAX_VALUE;
        int[] steps = sets(row.length(), 1, w);
        for (int set = 0; set < steps.length; set++)
            if (steps[set] >= 0 && Integer.bitCount(set) == deed.length() && spelt(row, set).equals(deed)) fewest = Math.min(fewest, steps[set]);
        return fewest == Integer.MAX_VALUE ? -2 : fewest;
    }
    int strokes(int b, int i, int w) {
        return !isB(b) || !isD(i) || w < 1 || w > 9 ? -1 : fewest(blanks.get(b).rest(), deeds[i], w);
    }
    long even(int b, int i, int w) {
        if (!isB(b) || !isD(i) || w < 1 || w > 9) return -1;
        String row = blanks.get(b).rest();
        int[] steps = sets(row.length(), w, w);
        long many = 0;
        for (int set = 0; set < steps.length; set++)
            if (steps[set] >= 0 && Integer.bitCount(set) == deeds[i].length() && spelt(row, set).equals(deeds[i])) many++;
        return many;
    }
    int hidden(int bits, int what) {
        List<Integer> of = areD(bits) ? list(bits) : List.of();
        if (of.size() < 2 || of.size() > 3 || what < -1) return -1;
        String best = "";
        String first = deeds[of.get(0)];
        for (int set = 0; set < 1 << first.length(); set++) {
            String s = spelt(first, set);
            boolean all = true;
            for (int i : of) all &= comes(deeds[i], s);
            if (all && (s.length() > best.length() || s.length() == best.length() && s.compareTo(best) < 0)) best = s;
        }
        return what == -1 ? best.length() : what < best.length() ? best.charAt(what) - 'a' : -1;
    }
    private String shortestBits = "";
    private final List<String> shortest = new ArrayList<>();
    void words(String word, int size, List<Integer> of, TreeSet<Character> letters, List<String> into) {
        int lacking = 0;
        for (int i : of) {
            int j = 0;
            for (char c : word.toCharArray()) if (j < deeds[i].length() && deeds[i].charAt(j) == c) j++;
            lacking = Math.max(lacking, deeds[i].length() - j);
        }
        if (word.length() + lacking > size) return;
        if (word.length() == size) { into.add(word); return; }
        for (char c : letters) words(word + c, size, of, letters, into);
    }
    List<String> allShortest(List<Integer> of) {
        StringBuilder key = new StringBuilder();
        TreeSet<Character> letters = new TreeSet<>();
        for (int i : of) {
            key.append(deeds[i]).append(' ');
            for (char c : deeds[i].toCharArray()) letters.add(c);
        }
        if (key.toString().equals(shortestBits)) return shortest;
        shortestBits = key.toString();
        shortest.clear();
        for (int size = 1; shortest.isEmpty(); size++) words("", size, of, letters, shortest);
        return shortest;
    }
    int coverRefusal(int bits, int what) {
        List<Integer> of = areD(bits) ? list(bits) : List.of();
        if (of.size() < 2 || of.size() > 4 || what < -1) return -1;
        for (int i : of) if (deeds[i].length() > 12) return -2;
        return 0;
    }
    int shortest(int bits, int what) {
        int refusal = coverRefusal(bits, what);
        if (refusal != 0) return refusal;
        String s = allShortest(list(bits)).get(0);
        return what == -1 ? s.length() : what < s.length() ? s.charAt(what) - 'a' : -1;
    }
    long shortestMany(int bits) {
        int refusal = coverRefusal(bits, -1);
        return refusal != 0 ? refusal : allShortest(list(bits)).size();
    }
    int bound(int bits) {
        int refusal = coverRefusal(bits, -1);
        if (refusal != 0) return refusal;
        int most = 0;
        for (int i : list(bits)) for (int j : list(bits)) if (i < j) most = Math.max(most, allShortest(List.of(i, j)).get(0).length());
        return most;
    }
    int forged(int i) {
        if (!isD(i)) return -1;
        for (SlowBlank blank : blanks) if (comes(blank.written, deeds[i])) return 0;
        return 1;
    }
    boolean allCome(String row, int bits) {
        for (int i : list(bits)) if (!comes(row, deeds[i])) return false;
        return true;
    }
    long spare(int b, int bits) {
        if (!isB(b) || !areD(bits)) return -1;
        String row = blanks.get(b).rest();
        if (!allCome(row, bits)) return -2;
        long found = 0;
        for (int q = 0; q < row.length(); q++)
            if (allCome(row.substring(0, q) + row.substring(q + 1), bits)) found |= 1L << blanks.get(b).left.get(q);
        return found;
    }
    private int[] bestRow;
    private int bestGot;
    private int bestLost;
    void share(List<Integer> of, int k, int[] row, int without) {
        if (k == of.size()) {
            int got = 0;
            int lost = 0;
            for (int n = 0; n < k; n++) {
                if (row[n] == 8) continue;
                got++;
                lost += blanks.get(row[n]).left.size() - deeds[of.get(n)].length();
            }
            // rows come in their order, so only a better one takes the place of the one before
            if (bestRow == null || got > bestGot || got == bestGot && lost < bestLost) { bestRow = row.clone(); bestGot = got; bestLost = lost; }
            return;
        }
        for (int b = 0; b <= 8; b++) {
            row[k] = b;
            boolean can = b == 8 || b < blanks.size() && b != without && comes(blanks.get(b).rest(), deeds[of.get(k)]);
            for (int n = 0; n < k; n++) can &= b == 8 || row[n] != b;
            if (can) share(of, k + 1, row, without);
        }
    }
    int dayEnd(int bits, int what) {
        if (!areD(bits) || bits == 0 || what < -1 || what > 7 && what != 10) return -1;
        List<Integer> of = list(bits);
        if (what >= 0 && what < 8 && !of.contains(what)) return -2;
        bestRow = null;
        share(of, 0, new int[of.size()], -1);
        return what == -1 ? bestGot : what == 10 ? bestLost : bestRow[of.indexOf(what)];
    }
    int worth(int b, int bits, int what) {
        if (!isB(b) || !areD(bits) || what < 0 || what > 1) return -1000;
        bestRow = null;
        share(list(bits), 0, new int[8], -1);
        int got = bestGot;
        int lost = bestLost;
        bestRow = null;
        share(list(bits), 0, new int[8], b);
        return what == 0 ? got - bestGot : bestLost - lost;
    }
    int family(int b, int bits, int w, int what) {
        if (!isB(b) || !areD(bits) || w < 1 || w > 9 || what < -1 || what > 7) return -1;
        if (!allCome(blanks.get(b).written, bits)) return -2;
        List<Integer> of = list(bits);
        if (what >= 0 && !of.contains(what)) return -2;
        int together = 0;
        int parent = 8;
        for (int i : of) {
            List<int[]> offers = new ArrayList<>();
            offers.add(new int[] {fewest(blanks.get(b).written, deeds[i], w), 8, -1});
            for (int j : of) {
                if (j == i || !comes(deeds[j], deeds[i])) continue;
                if (deeds[j].length() > deeds[i].length() || j < i) offers.add(new int[] {fewest(deeds[j], deeds[i], w), j, j});
            }
            offers.sort(Comparator.<int[]>comparingInt(o -> o[0]).thenComparingInt(o -> o[2]));
            together += offers.get(0)[0];
            if (i == what) parent = offers.get(0)[1];
        }
        return what == -1 ? together : parent;
    }
    private List<Integer> bestChain;
    void chains(String row, List<Integer> chain) {
        if (chain.size() > bestChain.size()) bestChain = new ArrayList<>(chain);
        for (int i = 0; i < 8; i++) {
            if (deeds[i] == null || chain.contains(i) || !comes(row, deeds[i])) continue;
            chain.add(i);
            chains(deeds[i], chain);
            chain.remove(chain.size() - 1);
        }
    }
    int chain(int b, int what) {
        if (!isB(b) || what < -1) return -1;
        bestChain = new ArrayList<>();
        chains(blanks.get(b).rest(), new ArrayList<>());
        return what == -1 ? bestChain.size() : what < bestChain.size() ? bestChain.get(what) : -2;
    }
    boolean seed(int s) { if (s < 0 || s > 65535) return false; x = s; return true; }
    int draw(int b, int n) {
        if (!isB(b) || n < 1 || n > 40) return -1;
        int struck = 0;
        SlowBlank blank = blanks.get(b);
        for (int k = 0; k < n; k++) {
            if (blank.left.size() <= 1) break;
            x = (int) ((25173L * x + 13849) % 65536);
            int place = x % blank.left.size();
            if (strike(b, place, 1, x % 8) >= 0) struck++;
        }
        return struck;
    }
    int check(int b, int n) {
        if (!isB(b) || n < 0 || 4L * n > tape.size()) return -2;
        List<Integer> numbers = new ArrayList<>();
        for (int k = 0; k < n; k++) {
            int number = 0;
            for (int q = 0; q < 4; q++) number = number * 256 + tape.get(4 * k + q);
            numbers.add(number);
        }
        tape.clear();
        String row = blanks.get(b).rest();
        for (int k = 0; k < n; k++) if (k >= row.length() || numbers.get(k) != row.charAt(k) - 'a') return k;
        return n < row.length() ? n : -1;
    }
    int count(int what) {
        if (what >= 10 && what < 18) return isB(what - 10) ? blanks.get(what - 10).left.size() : -1;
        if (what >= 20 && what < 28) return deeds[what - 20] == null ? 0 : deeds[what - 20].length();
        int told = 0;
        for (int i = 0; i < 8; i++) if (deeds[i] != null) told |= 1 << i;
        int cost = 0;
        for (SlowStroke s : book) cost += s.cost;
        int[] all = {blanks.size(), told, law.kinds.size(), tape.size(), day, book.size(), x, cost};
        return what >= 0 && what < 8 ? all[what] : -1;
    }
}

import java.lang.management.ManagementFactory;
import java.lang.reflect.Array;
import java.lang.reflect.Field;
import java.lang.reflect.Modifier;
import java.util.ArrayDeque;
import java.util.IdentityHashMap;
import java.util.Map;
import java.util.Random;

/**
 * Any arguments in any state: no call throws, a refused one changes nothing, the same calls give the same answers,
 * and what an object makes in its 512 calls stays small.
 */
public final class WildTest {
    private static int wrong = 0;

    private static final int[] ODD = {Integer.MIN_VALUE, Integer.MIN_VALUE + 1, -65536, -1001, -1000, -257, -256, -10, -3, -2, -1, 0, 1, 2,
        3, 7, 8, 9, 10, 11, 12, 15, 16, 17, 31, 39, 40, 41, 47, 48, 60, 63, 64, 127, 128, 159, 160, 161, 199, 200, 201, 255, 256, 999, 1000,
        65535, 65536, 1 << 29, 1 << 30, Integer.MAX_VALUE - 1, Integer.MAX_VALUE};

    private static final String[] LAWS = {"n(l=2&k<4);pl*i+w-m(f=0|g=1)", "p[d+b]/[i-3](!l=7);n(o%k=1)", "p99*l(1=1)", "n(k=7)",
        "n((((((l=0))))))", "p[[[[[[1+2*3]]]]]](l<9&(i>3|w<20))", "n(1/0=0);p1/0(1=1)", "n(", "p123456(l=0)", "x"};

    private static int any(Random random) {
        return random.nextInt(3) == 0 ? ODD[random.nextInt(ODD.length)] : random.nextInt(12) - 1;
    }

    private static int bits(Random random) { return random.nextInt(4) == 0 ? any(random) : random.nextInt(256); }

    private static void feed(StrikeOut x, String text) {
        for (int at = 0; at < text.length(); at += 20) {
            int[] n = new int[5];
            for (int k = 0; k < 20; k++) n[k / 4] = n[k / 4] << 8 | (at + k < text.length() ? text.charAt(at + k) : 'a');
            x.feed(n[0], n[1], n[2], n[3], n[4]);
        }
    }

    private static String letters(Random random, int most) {
        StringBuilder s = new StringBuilder();
        int kinds = 1 + random.nextInt(random.nextInt(3) == 0 ? 26 : 3);
        for (int n = 1 + random.nextInt(most); n > 0; n--) s.append((char) ('a' + random.nextInt(kinds)));
        return s.toString();
    }

    private static long told(StrikeOut x, Random r, int dice) {
        String s;
        switch (dice) {
            case 0: s = letters(r, 40); feed(x, s); return x.blank(s.length());
            case 1: s = letters(r, 16); feed(x, s); return x.deed(r.nextInt(8), s.length());
            case 2: s = letters(r, 12); feed(x, s); return x.deed(r.nextInt(8), s.length());
            case 3: s = LAWS[r.nextInt(LAWS.length)]; feed(x, s); return x.law(s.length());
            case 4: return x.feed(any(r), any(r), any(r), any(r), any(r));
            case 5: return x.blank(any(r));
            case 6: return x.deed(any(r), any(r));
            case 7: return x.law(any(r));
            case 8: return x.day(any(r)) ? 1 : 0;
            default: return x.seed(any(r)) ? 1 : 0;
        }
    }

    private static long asked(StrikeOut x, Random r, int dice) {
        switch (dice) {
            case 0: return x.left(any(r), any(r), any(r));
            case 1: return x.may(any(r), any(r), any(r), any(r));
            case 2: return x.strike(any(r), any(r), any(r), any(r));
            case 3: return x.back(any(r));
            case 4: return x.book(any(r), any(r));
            case 5: return x.ways(any(r), any(r));
            case 6: return x.cheapest(any(r), any(r), any(r), any(r));
            case 7: return x.done(any(r), any(r), any(r));
            case 8: return x.strokes(any(r), any(r), any(r));
            case 9: return x.even(any(r), any(r), any(r));
            case 10: return x.hidden(bits(r), any(r));
            case 11: return x.shortest(bits(r), any(r));
            case 12: return x.shortestMany(bits(r));
            case 13: return x.bound(bits(r));
            case 14: return x.forged(any(r));
            case 15: return x.spare(any(r), bits(r));
            case 16: return x.dayEnd(bits(r), any(r));
            case 17: return x.worth(any(r), bits(r), any(r));
            case 18: return x.family(any(r), bits(r), any(r), any(r));
            case 19: return x.chain(any(r), any(r));
            case 20: return x.draw(any(r), any(r));
            case 21: return x.check(any(r), any(r));
            default: return x.count(any(r));
        }
    }

    private static long call(StrikeOut x, Random r) {
        int dice = r.nextInt(36);
        return dice < 10 ? told(x, r, dice) : asked(x, r, dice - 10);
    }

    /** All that can be asked about the state, as one number. */
    private static long state(StrikeOut x) {
        long sum = 0;
        for (int what = 0; what < 28; what++) sum = sum * 31 + x.count(what);
        for (int b = 0; b < 8; b++) for (int p = 0; p < 40; p++) sum = sum * 31 + x.left(b, p, 0) * 41 + x.left(b, p, 1);
        for (int i = 0; i < 60; i++) for (int what = 0; what < 19; what++) sum = sum * 31 + x.book(i, what);
        for (int b = 0; b < 8; b++) for (int i = 0; i < 8; i++) sum = sum * 31 + x.ways(b, i);
        return sum;
    }

    private static void runs() {
        for (int run = 1; run <= 300; run++) {
            Random r = new Random(run);
            Random again = new Random(run);
            StrikeOut x = new StrikeOut();
            StrikeOut y = new StrikeOut();
            for (int k = 0; k < 512; k++) {
                long a = call(x, r);
                long b = call(y, again);
                if (a != b) { wrong++; System.out.println("run " + run + ", call " + k + ": " + a + " and " + b); }
            }
            if (state(x) != state(y)) { wrong++; System.out.println("run " + run + ": two states"); }
        }
    }

    /** What only asks leaves the state as it was, whatever it answers; what is refused does, too. */
    private static void refusals() {
        for (int run = 1; run <= 40; run++) {
            Random r = new Random(1000 + run);
            StrikeOut x = new StrikeOut();
            for (int k = 0; k < 300; k++) call(x, r);
            for (int k = 0; k < 100; k++) {
                long before = state(x);
                int dice = r.nextInt(23);
                long answer = asked(x, r, dice);
                boolean changes = dice == 2 || dice == 3 || dice == 7 || dice == 20;
                boolean free = dice == 21 ? answer != -2 : changes && answer >= 0;
                if (!free && state(x) != before) { wrong++; System.out.println("run " + run + ": call of kind " + dice + " changed the state"); }
            }
        }
    }

    private static long[] room(StrikeOut x) throws Exception {
        Map<Object, Boolean> seen = new IdentityHashMap<>();
        ArrayDeque<Object> open = new ArrayDeque<>();
        open.add(x);
        seen.put(x, true);
        long[] sum = new long[2];
        while (!open.isEmpty()) {
            Object o = open.poll();
            sum[0]++;
            if (o.getClass().isArray()) {
                sum[1] += Array.getLength(o);
                if (o instanceof Object[]) for (Object part : (Object[]) o) if (part != null && seen.put(part, true) == null) open.add(part);
                continue;
            }
            for (Field f : o.getClass().getDeclaredFields()) {
                if (Modifier.isStatic(f.getModifiers())) continue;
                sum[1]++;
                f.setAccessible(true);
                Object part = f.getType().isPrimitive() ? null : f.get(o);
                if (part != null && seen.put(part, true) == null) open.add(part);
            }
        }
        return sum;
    }

    private static void room() throws Exception {
        long[] fresh = room(new StrikeOut());
        StrikeOut x = new StrikeOut();
        for (int i = 0; i < 4; i++) { feed(x, "abcdefghijkl"); x.deed(i, 12); }
        for (int b = 0; b < 8; b++) { feed(x, "abcdefghijklmnopqrstuvwxyzabcdefghijklmn"); x.blank(40); }
        feed(x, LAWS[0]);
        x.law(LAWS[0].length());
        x.shortest(15, -1);
        long[] used = room(x);
        System.out.println("a new object: " + fresh[0] + " objects, " + fresh[1] + " elements; a used one: " + used[0] + ", " + used[1]);
        if (fresh[0] > 200 || fresh[1] > 15000 || used[0] > 250 || used[1] > 80000) { wrong++; System.out.println("too large"); }
        com.sun.management.ThreadMXBean bean = (com.sun.management.ThreadMXBean) ManagementFactory.getThreadMXBean();
        long id = Thread.currentThread().getId();
        for (int k = 0; k < 3; k++) dear(x);
        long before = bean.getThreadAllocatedBytes(id);
        dear(x);
        long made = bean.getThreadAllocatedBytes(id) - before;
        System.out.println("made by dear calls: " + made + " bytes");
        if (made > 2000) { wrong++; System.out.println("calls make too much"); }
    }

    private static void dear(StrikeOut x) {
        for (int b = 0; b < 8; b++) {
            x.ways(b, 0);
            x.cheapest(b, 1, 5, -1);
            x.done(b, 2, 7);
            x.strokes(b, 3, 2);
            x.even(b, 0, 2);
            x.hidden(7, 0);
            x.shortest(15, 3);
            x.shortestMany(7);
            x.bound(15);
            x.spare(b, 1);
            x.dayEnd(15, 0);
            x.worth(b, 15, 1);
            x.family(b, 15, 3, 0);
            x.chain(b, 0);
            x.draw(b, 4);
            x.back(b);
        }
    }

    public static void main(String[] args) throws Exception {
        runs();
        refusals();
        room();
        System.out.println(wrong == 0 ? "nothing wild happened" : wrong + " faults");
        if (wrong != 0) System.exit(1);
    }
}

import java.lang.management.ManagementFactory;
import java.lang.reflect.Array;
import java.lang.reflect.Field;
import java.lang.reflect.Modifier;
import java.util.ArrayDeque;
import java.util.ArrayList;
import java.util.IdentityHashMap;
import java.util.List;
import java.util.Map;
import java.util.Random;

/**
 * Any arguments in any state: no call throws, a refused one changes nothing, the same calls give the same answers,
 * and what an object makes in its 512 calls stays small.
 */
public final class WildTest {
    private static final int ABCD = 0x61626364;
    private static final int EFGH = 0x65666768;
    private static final int IJKL = 0x696a6b6c;

    private static final int[] ODD = {Integer.MIN_VALUE, Integer.MIN_VALUE + 1, -65536, -1001, -1000, -257, -256, -10, -3, -2, -1, 0, 1, 2,
        3, 7, 8, 9, 10, 11, 12, 15, 16, 17, 31, 39, 40, 41, 47, 48, 60, 63, 64, 127, 128, 159, 160, 161, 199, 200, 201, 255, 256, 999, 1000,
        65535, 65536, 1 << 29, 1 << 30, Integer.MAX_VALUE - 1, Integer.MAX_VALUE};

    private static final String[] LAWS = {"n(l=2&k<4);pl*i+w-m(f=0|g=1)", "p[d+b]/[i-3](!l=7);n(o%k=1)", "p99*l(1=1)", "n(k=7)",
        "n((((((l=0))))))", "p[[[[[[1+2*3]]]]]](l<9&(i>3|w<20))", "n(1/0=0);p1/0(1=1)", "n(", "p123456(l=0)", "x"};

    private static int any(Random random) {
        return random.nextInt(3) == 0 ? ODD[random.nextInt(ODD.length)] : random.nextInt(12) - 1;
    }

    private static int bits(Random random) { return random.nextInt(4) == 0 ? any(random) : random.nextInt(256); }

    private static String letters(Random random, int most) {
        StringBuilder s = new StringBuilder();
        int kinds = 1 + random.nextInt(random.nextInt(3) == 0 ? 26 : 3);
        for (int n = 1 + random.nextInt(most); n > 0; n--) s.append((char) ('a' + random.nextInt(kinds)));
        return s.toString();
    }

    private static long told(Office x, Random r, int dice) {
        switch (dice) {
            case 0: return x.blank(letters(r, 40));
            case 1: return x.deed(r.nextInt(8), letters(r, 16));
            case 2: return x.deed(r.nextInt(8), letters(r, 12));
            case 3: return x.law(LAWS[r.nextInt(LAWS.length)]);
            case 4: return x.feed(any(r), any(r), any(r), any(r), any(r));
            case 5: return x.blank(any(r));
            case 6: return x.deed(any(r), any(r));
            case 7: return x.law(any(r));
            case 8: return x.day(any(r)) ? 1 : 0;
            default: return x.seed(any(r)) ? 1 : 0;
        }
    }

    private static long asked(Office x, Random r, int dice) {
        switch (dice) {
            case 0: return x.left(any(r), any(r), any(r));
            case 1: return x.may(any(r), any(r), any(r), any(r));
            case 2: return x.strike(any(r), any(r), any(r), any(r));
            case 3: return x.back(any(r));
            case 4: return x.book(any(r), any(r));
            case 5: return x.ways(any(r), any(r));
            case 6: return x.cheapest(any(r), any(r), any(r), any(r));
            case 7: return x.done(any(r), any(r), any(r));
            case 8: return x.strokes(any(r), any(r), any(r));
            case 9: return x.even(any(r), any(r), any(r));
            case 10: return x.hidden(bits(r), any(r));
            case 11: return x.shortest(bits(r), any(r));
            case 12: return x.shortestMany(bits(r));
            case 13: return x.bound(bits(r));
            case 14: return x.forged(any(r));
            case 15: return x.spare(any(r), bits(r));
            case 16: return x.dayEnd(bits(r), any(r));
            case 17: return x.worth(any(r), bits(r), any(r));
            case 18: return x.family(any(r), bits(r), any(r), any(r));
            case 19: return x.chain(any(r), any(r));
            case 20: return x.draw(any(r), any(r));
            case 21: return x.check(any(r), any(r));
            default: return x.count(any(r));
        }
    }

    private static long call(Office x, Random r) {
        int dice = r.nextInt(36);
        return dice < 10 ? told(x, r, dice) : asked(x, r, dice - 10);
    }

    /** What can be asked about the state till the calls of the object are used up. */
    private static long[] state(Office x) {
        List<Long> all = new ArrayList<>();
        for (int what = 0; what < 28; what++) all.add((long) x.count(what));
        for (int b = 0; b < 8; b++) for (int i = 0; i < 8; i++) if (i % 3 == b % 3) all.add(x.ways(b, i));
        for (int i = 0; i < 60 && all.get(5) > i; i++) all.add((long) x.book(i, i % 5));
        for (int p = 0; p < 40; p++)
            for (int b = 0; b < 8 && x.calls() < Office.MOST_CALLS; b++) if (p < all.get(10 + b)) all.add((long) x.left(b, p, (p + b) % 2));
        long[] told = new long[all.size()];
        for (int k = 0; k < told.length; k++) told[k] = all.get(k);
        return told;
    }

    private static void runs() {
        for (int run = 1; run <= 300; run++) {
            Due.sentence("the same calls give the same answers, run " + run);
            Random r = new Random(run);
            Random again = new Random(run);
            Office x = new Office();
            Office y = new Office();
            while (x.calls() < Office.MOST_CALLS - 4) {
                long answer = call(x, r);
                Due.is("call " + x.calls(), answer, call(y, again));
            }
        }
    }

    /** What is answered behind the 512th call is free, but a call still ends and never throws. */
    private static void beyond() {
        Due.sentence("no call may ever throw, for any arguments in any state");
        for (int run = 1; run <= 20; run++) {
            Random r = new Random(5000 + run);
            Office x = new Office(true);
            try {
                while (x.calls() < 3000) call(x, r);
            } catch (RuntimeException thrown) {
                Due.fault("run " + run + ", call " + x.calls() + " threw " + thrown);
            }
        }
    }

    /** What only asks leaves the state as it was, whatever it answers; what is refused does, too. */
    private static void refusals() {
        for (int run = 1; run <= 2000; run++) {
            Due.sentence("a refused call changes nothing, run " + run);
            Random r = new Random(1000 + run);
            Random again = new Random(1000 + run);
            Office x = new Office();
            Office y = new Office();
            for (int k = 0; k < 70; k++) call(x, r);
            for (int k = 0; k < 70; k++) call(y, again);
            int dice = r.nextInt(23);
            long answer = asked(x, r, dice);
            boolean changes = dice == 2 || dice == 3 || dice == 7 || dice == 20;
            boolean free = dice == 21 ? answer != -2 : changes && answer >= 0;
            y.count(0);
            if (!free) Due.same("behind a call of kind " + dice, state(y), state(x));
        }
    }

    private static long[] room(StrikeOut x) throws Exception {
        Map<Object, Boolean> seen = new IdentityHashMap<>();
        ArrayDeque<Object> open = new ArrayDeque<>();
        open.add(x);
        seen.put(x, true);
        long[] sum = new long[2];
        while (!open.isEmpty()) {
            Object o = open.poll();
            sum[0]++;
            if (o.getClass().isArray()) {
                sum[1] += Array.getLength(o);
                if (o instanceof Object[]) for (Object part : (Object[]) o) if (part != null && seen.put(part, true) == null) open.add(part);
                continue;
            }
            for (Field f : o.getClass().getDeclaredFields()) {
                if (Modifier.isStatic(f.getModifiers())) continue;
                sum[1]++;
                f.setAccessible(true);
                Object part = f.getType().isPrimitive() ? null : f.get(o);
                if (part != null && seen.put(part, true) == null) open.add(part);
            }
        }
        return sum;
    }

    private static void room() throws Exception {
        Due.sentence("all calls of one run live in one room");
        long[] fresh = room(new StrikeOut());
        StrikeOut x = new StrikeOut();
        for (int i = 0; i < 4; i++) { x.feed(ABCD, EFGH, IJKL, 0, 0); x.deed(i, 12); }
        for (int b = 0; b < 8; b++) { x.feed(ABCD, EFGH, IJKL, ABCD, EFGH); x.feed(IJKL, IJKL, EFGH, ABCD, IJKL); x.blank(40); }
        x.feed('p' << 24 | 'l' << 16 | '*' << 8 | 'i', '(' << 24 | 'f' << 16 | '=' << 8 | '0', ')' << 24, 0, 0);
        if (x.law(9) != 1) Due.fault("no LAW");
        x.shortest(15, -1);
        long[] used = room(x);
        System.out.println("a new object: " + fresh[0] + " objects, " + fresh[1] + " elements; a used one: " + used[0] + ", " + used[1]);
        if (fresh[0] > 200 || fresh[1] > 15000 || used[0] > 250 || used[1] > 80000) Due.fault("too large");
        com.sun.management.ThreadMXBean bean = (com.sun.management.ThreadMXBean) ManagementFactory.getThreadMXBean();
        long id = Thread.currentThread().getId();
        for (int k = 0; k < 2; k++) dear(x);
        long before = bean.getThreadAllocatedBytes(id);
        dear(x);
        long made = bean.getThreadAllocatedBytes(id) - before;
        System.out.println("made by dear calls: " + made + " bytes");
        if (made > 2000) Due.fault("calls make too much");
    }

    private static void dear(StrikeOut x) {
        for (int b = 0; b < 8; b++) {
            x.ways(b, 0);
            x.cheapest(b, 1, 5, -1);
            x.done(b, 2, 7);
            x.strokes(b, 3, 2);
            x.even(b, 0, 2);
            x.hidden(7, 0);
            x.shortest(15, 3);
            x.shortestMany(7);
            x.bound(15);
            x.spare(b, 1);
            x.dayEnd(15, 0);
            x.worth(b, 15, 1);
            x.family(b, 15, 3, 0);
            x.chain(b, 0);
            x.draw(b, 4);
            x.back(b);
        }
    }

    public static void main(String[] args) throws Exception {
        runs();
        beyond();
        refusals();
        room();
        Due.end();
    }
}

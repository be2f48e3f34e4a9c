import java.util.ArrayList;
import java.util.List;

/**
 * Promises 2 to 30: each ground for which a call is refused by itself, one step beyond each bound and one step inside,
 * which tape is empty then and which stays, and that nothing else has changed.
 *
 * Each call is made in an office of its own; behind it this office must answer as one like it that was not asked.
 */
public final class RefusalTest {
    private static final int MIN = Integer.MIN_VALUE;
    private static final int MAX = Integer.MAX_VALUE;

    private interface Call { long ask(Office x); }

    private interface Maker { Office make(); }

    // ---- the offices ----

    private static String some(String part, int times) { return part.repeat(times); }

    private static final String LETTERS = "klmnopqrstuvwxyzabcd";

    /** Six BLANKS, one without a STROKE, one with nothing LEFT; DEEDS 0 to 5; a LAW; four STROKES; an empty tape. */
    private static Office bare() {
        Office x = new Office();
        x.blank("abcabcabcabc");
        x.blank("aabb");
        x.blank("hello");
        x.blank(some("z", 20));
        x.blank("q");
        x.blank("abcdefghijklmnopqrstuvwxyzabcdefghijklmn");
        x.deed(0, "abc");
        x.deed(1, "ab");
        x.deed(2, "cab");
        x.deed(3, "zz");
        x.deed(4, some("a", 13));
        x.deed(5, "ell");
        x.law("n(k=3&l=0);p7(l=1);p1/0(l=2);n(k=6);p3(1=1)");
        x.day(10);
        x.strike(0, 3, 2, 1);
        x.strike(2, 0, 1, 2);
        x.day(40);
        x.strike(0, 9, 1, 5);
        x.strike(4, 0, 1, 0);
        x.seed(777);
        return x;
    }

    private static Office with(String tape) {
        Office x = bare();
        x.feed(tape);
        return x;
    }

    private static Office plain() { return with(LETTERS); }

    private static Office eightBlanks() {
        Office x = bare();
        x.blank("ab");
        x.blank("ba");
        x.feed(LETTERS);
        return x;
    }

    private static Office fullBook() {
        Office x = bare();
        for (int k = 0; k < 19; k++) x.strike(3, 0, 1, 0);
        for (int k = 0; k < 37; k++) x.strike(5, 0, 1, 0);
        x.feed(LETTERS);
        return x;
    }

    /** Room for one STROKE. */
    private static Office nearlyFullBook() {
        Office x = bare();
        for (int k = 0; k < 18; k++) x.strike(3, 0, 1, 0);
        for (int k = 0; k < 37; k++) x.strike(5, 0, 1, 0);
        x.feed(LETTERS);
        return x;
    }

    // ---- what an office answers ----

    /** All but the tape; a full BOOK is told shorter, so that 512 calls are enough. */
    private static long[] state(Office x) {
        List<Long> all = new ArrayList<>();
        for (int what = 0; what < 28; what++) if (what != 3) all.add((long) x.count(what));
        int blanks = x.count(0);
        for (int b = 0; b < blanks; b++) {
            int size = x.count(10 + b);
            for (int place = 0; place < size; place++) all.add((long) x.left(b, place, 0) * 40 + x.left(b, place, 1));
        }
        for (int clerk = 0; clerk < 8; clerk++) {
            for (int place = 0; place < 3; place++) all.add(x.may(0, place, clerk, 0) * 100L + x.may(0, place, clerk, 1));
        }
        int strokes = x.count(5);
        for (int i = 0; i < strokes; i++) {
            if (i < 6) for (int what = 0; what < 14; what++) all.add((long) x.book(i, what));
            else all.add((long) x.book(i, 10));
        }
        for (int i = 0; i < 8; i++) {
            all.add((long) x.forged(i));
            for (int b = 0; b < 3; b++) all.add(x.ways(b, i));
        }
        for (int bits : new int[] {3, 5, 6, 9, 33}) {
            all.add((long) x.hidden(bits, 0));
            all.add(x.shortestMany(bits));
        }
        long[] told = new long[all.size()];
        for (int k = 0; k < told.length; k++) told[k] = all.get(k);
        return told;
    }

    /** What the tape holds, as far as a DEED tells it: it is the last that an office is asked. */
    private static long[] tape(Office x) {
        long[] told = new long[6];
        told[0] = x.deed(7, 16);
        told[1] = x.forged(7);
        told[2] = x.ways(5, 7);
        told[3] = x.count(3);
        told[4] = x.hidden(129, -1);
        told[5] = x.hidden(129, 0);
        return told;
    }

    private static void unchanged(String name, Maker maker, Call call, long want, boolean tapeStays) {
        Office asked = maker.make();
        Office other = maker.make();
        int tape = asked.count(3);
        other.count(3);
        Due.is(name, want, call.ask(asked));
        Due.is(name + ": the tape", tapeStays ? tape : 0, asked.count(3));
        Due.same(name + ": the state", state(other), state(asked));
        if (tapeStays) Due.same(name + ": what the tape holds", tape(other), tape(asked));
    }

    /** A call that is refused. */
    private static void refused(String name, long want, Call call) { unchanged(name, RefusalTest::plain, call, want, true); }

    private static void refused(String name, Maker maker, long want, Call call) { unchanged(name, maker, call, want, true); }

    /** A call that is refused and takes the tape. */
    private static void tapeTaken(String name, String tape, long want, Call call) { unchanged(name, () -> with(tape), call, want, false); }

    /** A call that only asks, one step inside a bound: it changes nothing, either. */
    private static void asks(String name, long want, Call call) { unchanged(name, RefusalTest::plain, call, want, true); }

    /** A call that is taken, one step inside a bound. */
    private static void taken(String name, Maker maker, long want, Call call) { Due.is(name, want, call.ask(maker.make())); }

    private static void taken(String name, long want, Call call) { taken(name, RefusalTest::plain, want, call); }

    // ---- promises ----

    private static void day() {
        Due.sentence("2: false: no such one, it is past");
        refused("day(-1)", 0, x -> x.day(-1) ? 1 : 0);
        refused("day(1000)", 0, x -> x.day(1000) ? 1 : 0);
        refused("day(39)", 0, x -> x.day(39) ? 1 : 0);
        refused("day(0)", 0, x -> x.day(0) ? 1 : 0);
        refused("day(MIN)", 0, x -> x.day(MIN) ? 1 : 0);
        refused("day(MAX)", 0, x -> x.day(MAX) ? 1 : 0);
        taken("day(40)", 1, x -> x.day(40) ? 1 : 0);
        taken("day(41)", 1, x -> x.day(41) ? 1 : 0);
        taken("day(999)", 1, x -> x.day(999) ? 1 : 0);
    }

    private static void feed() {
        Due.sentence("3: NONE if that would be more than 200");
        refused("feed behind 200", () -> with(some(LETTERS, 10)), -1, x -> x.feed(1, 2, 3, 4, 5));
        taken("feed behind 180", () -> with(some(LETTERS, 9)), 200, x -> x.feed(1, 2, 3, 4, 5));
        taken("feed behind 0", RefusalTest::bare, 20, x -> x.feed(1, 2, 3, 4, 5));
        Due.sentence("3: Twenty bytes come behind the tape, the highest of each int first");
        Office x = new Office();
        x.feed(0x61626364, 0x65666768, 0x696a6b6c, 0x6d6e6f70, 0x71727374);
        x.feed(0x7a797877, 0x76757473, 0x7271706f, 0x6e6d6c6b, 0x6a696867);
        x.blank(40);
        Due.is("both", true, x.rest(0).equals("abcdefghijklmnopqrstzyxwvutsrqponmlkjihg"));
        x.feed(-1, MIN, MAX, 0, 0);
        Due.is("bytes above 127", -2, x.blank(1));
    }

    private static void blank() {
        Due.sentence("4: NONE: no such n, 8 are there, it has not so many (the tape stays)");
        refused("blank(0)", -1, x -> x.blank(0));
        refused("blank(-1)", -1, x -> x.blank(-1));
        refused("blank(MIN)", -1, x -> x.blank(MIN));
        refused("blank(41) of 60", () -> with(some(LETTERS, 3)), -1, x -> x.blank(41));
        refused("blank(MAX)", -1, x -> x.blank(MAX));
        refused("blank(21) of 20", -1, x -> x.blank(21));
        refused("blank(1) of 0", RefusalTest::bare, -1, x -> x.blank(1));
        refused("blank(1), 8 are there", RefusalTest::eightBlanks, -1, x -> x.blank(1));
        refused("blank(41) of 60 with a byte that is no LETTER", () -> with(some("ABCDEFGHIJKLMNOPQRST", 3)), -1, x -> x.blank(41));
        refused("blank(21) of 20 with a byte that is no LETTER", () -> with("ABC"), -1, x -> x.blank(21));
        taken("blank(1)", 6, x -> x.blank(1));
        taken("blank(20) of 20", 6, x -> x.blank(20));
        taken("blank(40) of 60", () -> with(some(LETTERS, 3)), 6, x -> x.blank(40));
        Due.sentence("4: -2: a byte that is no LETTER");
        tapeTaken("the first", "{bcd", -2, x -> x.blank(4));
        tapeTaken("the last", "abc`", -2, x -> x.blank(4));
        tapeTaken("the only one", "A", -2, x -> x.blank(1));
        tapeTaken("the 40th", some("a", 39) + "-", -2, x -> x.blank(40));
        taken("the one behind them", () -> with("abc`"), 6, x -> x.blank(3));
        Office full = bare();
        full.blank("ab");
        full.blank("ab");
        full.feed("A");
        Due.is("8 are there, and it is no LETTER", -1, full.blank(1));
        Due.is("the tape stays", 20, full.count(3));
        Due.sentence("4: (empty then)");
        Office x = plain();
        x.blank(1);
        Due.is("what stood behind is gone", 0, x.count(3));
        Due.is("and is not asked again", -1, x.blank(1));
    }

    private static void deed() {
        Due.sentence("5: NONE: no such ones, it has not so many (the tape stays)");
        refused("deed(-1, 3)", -1, x -> x.deed(-1, 3));
        refused("deed(8, 3)", -1, x -> x.deed(8, 3));
        refused("deed(MIN, 3)", -1, x -> x.deed(MIN, 3));
        refused("deed(MAX, 3)", -1, x -> x.deed(MAX, 3));
        refused("deed(0, 0)", -1, x -> x.deed(0, 0));
        refused("deed(0, -1)", -1, x -> x.deed(0, -1));
        refused("deed(0, 17)", -1, x -> x.deed(0, 17));
        refused("deed(0, MIN)", -1, x -> x.deed(0, MIN));
        refused("deed(0, MAX)", -1, x -> x.deed(0, MAX));
        refused("deed(0, 1) of 0", RefusalTest::bare, -1, x -> x.deed(0, 1));
        refused("deed(8, 3) with a byte that is no LETTER", () -> with("ABC"), -1, x -> x.deed(8, 3));
        refused("deed(0, 17) with a byte that is no LETTER", () -> with("ABC"), -1, x -> x.deed(0, 17));
        taken("deed(0, 1)", 1, x -> x.deed(0, 1));
        taken("deed(7, 16)", 16, x -> x.deed(7, 16));
        Due.sentence("5: -2: a byte that is no LETTER");
        tapeTaken("the first", "{bcd", -2, x -> x.deed(0, 4));
        tapeTaken("the last", "abc`", -2, x -> x.deed(0, 4));
        tapeTaken("the only one", "A", -2, x -> x.deed(7, 1));
        tapeTaken("the 16th", some("a", 15) + "-", -2, x -> x.deed(5, 16));
        taken("the one behind them", () -> with("abc`"), 3, x -> x.deed(0, 3));
        Due.sentence("5: (empty then), in place of the one before");
        Office x = plain();
        x.deed(0, 1);
        Due.is("what stood behind is gone", 0, x.count(3));
        Due.is("one LETTER", 1, x.count(20));
        Due.is("it is k", 2, x.ways(5, 0));
    }

    private static void law() {
        Due.sentence("6: NONE: no such n, it has not so many (the tape stays)");
        refused("law(0)", () -> with("n(l=0)"), -1, x -> x.law(0));
        refused("law(-1)", () -> with("n(l=0)"), -1, x -> x.law(-1));
        refused("law(MIN)", () -> with("n(l=0)"), -1, x -> x.law(MIN));
        refused("law(161) of 180", () -> with("n(" + some("l=0|", 38) + "l+1=0)" + LETTERS), -1, x -> x.law(161));
        refused("law(MAX)", () -> with("n(l=0)"), -1, x -> x.law(MAX));
        refused("law(21) of 20", () -> with("n(l=0)"), -1, x -> x.law(21));
        refused("law(1) of 0", RefusalTest::bare, -1, x -> x.law(1));
        taken("law(160) of 180", () -> with("n(" + some("l=0|", 38) + "l+1=0)" + LETTERS), 1, x -> x.law(160));
        taken("law(6)", () -> with("n(l=0)"), 1, x -> x.law(6));
        Due.sentence("6: a FAULT: -1000 times its number, less its place (the TEXT before stays)");
        tapeTaken("FAULT 1 at 0", "x(l=0)", -1000, x -> x.law(6));
        tapeTaken("FAULT 1 at the end", "n(l=0)", -1005, x -> x.law(5));
        tapeTaken("FAULT 1 behind two CLAUSES", "n(l=0);p1(l=1);x", -1015, x -> x.law(16));
        tapeTaken("FAULT 2", "n(l=123456)", -2009, x -> x.law(11));
        tapeTaken("FAULT 4", some("n(l=0);", 12) + "n", -4084, x -> x.law(85));
        tapeTaken("FAULT 5", "n(((((((l=0", -5007, x -> x.law(11));
        Office x = with("n(l=0);p5(l=1)");
        Due.is("the first six bytes", 1, x.law(6));
        Due.is("what stood behind is gone", 0, x.count(3));
        Due.is("one CLAUSE in place of five", 1, x.count(2));
    }

    private static void left() {
        Due.sentence("7: NONE: no such ones");
        refused("BLANK -1", -1, x -> x.left(-1, 0, 0));
        refused("BLANK 6", -1, x -> x.left(6, 0, 0));
        refused("BLANK 8", RefusalTest::eightBlanks, -1, x -> x.left(8, 0, 0));
        refused("BLANK MIN", -1, x -> x.left(MIN, 0, 0));
        refused("PLACE -1", -1, x -> x.left(0, -1, 0));
        refused("PLACE 9", -1, x -> x.left(0, 9, 0));
        refused("PLACE 9, own number", -1, x -> x.left(0, 9, 1));
        refused("PLACE 40", -1, x -> x.left(5, 40, 0));
        refused("PLACE 0 of nothing", -1, x -> x.left(4, 0, 0));
        refused("PLACE MIN", -1, x -> x.left(0, MIN, 1));
        refused("PLACE MAX", -1, x -> x.left(0, MAX, 1));
        refused("what -1", -1, x -> x.left(0, 0, -1));
        refused("what 2", -1, x -> x.left(0, 0, 2));
        refused("what MAX", -1, x -> x.left(0, 0, MAX));
        asks("BLANK 0", 0, x -> x.left(0, 0, 0));
        asks("BLANK 5", 1, x -> x.left(5, 1, 0));
        asks("PLACE 8", 1, x -> x.left(0, 8, 0));
        asks("PLACE 8, own number", 10, x -> x.left(0, 8, 1));
        asks("PLACE 39", 13, x -> x.left(5, 39, 0));
        taken("BLANK 7", RefusalTest::eightBlanks, 1, x -> x.left(7, 0, 0));
    }

    private static void may() {
        Due.sentence("8: NONE: no such ones");
        refused("BLANK -1", -1, x -> x.may(-1, 0, 0, 0));
        refused("BLANK 6", -1, x -> x.may(6, 0, 0, 0));
        refused("PLACE -1", -1, x -> x.may(0, -1, 0, 0));
        refused("PLACE 9", -1, x -> x.may(0, 9, 0, 0));
        refused("PLACE 0 of nothing", -1, x -> x.may(4, 0, 0, 1));
        refused("CLERK -1", -1, x -> x.may(0, 0, -1, 0));
        refused("CLERK 8", -1, x -> x.may(0, 0, 8, 0));
        refused("CLERK 8, PRICE", -1, x -> x.may(0, 0, 8, 1));
        refused("what -1", -1, x -> x.may(0, 0, 0, -1));
        refused("what 2", -1, x -> x.may(0, 0, 0, 2));
        refused("all of the least", -1, x -> x.may(MIN, MIN, MIN, MIN));
        refused("all of the greatest", -1, x -> x.may(MAX, MAX, MAX, MAX));
        asks("PLACE 8", 1, x -> x.may(0, 8, 0, 0));
        asks("PLACE 8, PRICE", 7, x -> x.may(0, 8, 0, 1));
        asks("CLERK 7", 1, x -> x.may(0, 0, 7, 0));
        asks("CLERK 3 on a", 0, x -> x.may(0, 0, 3, 0));
        asks("CLERK 3 on b", 1, x -> x.may(0, 1, 3, 0));
        asks("CLERK 3 on a, PRICE", 3, x -> x.may(0, 0, 3, 1));
        asks("a division by 0, PRICE", 0, x -> x.may(0, 2, 0, 1));
    }

    private static void strike() {
        Due.sentence("9: NONE: no such ones, not so many are LEFT from there on");
        refused("BLANK -1", -1, x -> x.strike(-1, 0, 1, 0));
        refused("BLANK 6", -1, x -> x.strike(6, 0, 1, 0));
        refused("PLACE -1", -1, x -> x.strike(0, -1, 1, 0));
        refused("PLACE 9", -1, x -> x.strike(0, 9, 1, 0));
        refused("PLACE 0 of nothing", -1, x -> x.strike(4, 0, 1, 0));
        refused("0 LETTERS", -1, x -> x.strike(0, 0, 0, 0));
        refused("-1 LETTER", -1, x -> x.strike(0, 2, -1, 0));
        refused("10 LETTERS", -1, x -> x.strike(5, 0, 10, 0));
        refused("CLERK -1", -1, x -> x.strike(0, 0, 1, -1));
        refused("CLERK 8", -1, x -> x.strike(0, 0, 1, 8));
        refused("2 from PLACE 8", -1, x -> x.strike(0, 8, 2, 0));
        refused("9 from PLACE 1", -1, x -> x.strike(0, 1, 9, 0));
        refused("9 from PLACE 32", -1, x -> x.strike(5, 32, 9, 0));
        refused("5 of 4", -1, x -> x.strike(1, 0, 5, 0));
        refused("PLACE MAX", -1, x -> x.strike(0, MAX, 9, 0));
        refused("MAX LETTERS", -1, x -> x.strike(0, 5, MAX, 0));
        refused("all of the least", -1, x -> x.strike(MIN, MIN, MIN, MIN));
        taken("1 from PLACE 8", 7, x -> x.strike(0, 8, 1, 0));
        taken("9 from PLACE 0", 3 * 3 + 7 * 3, x -> x.strike(0, 0, 9, 0));
        taken("9 from PLACE 31", 27, x -> x.strike(5, 31, 9, 0));
        taken("4 of 4", 20, x -> x.strike(1, 0, 4, 7));
        Due.sentence("9: -2: a LETTER may not be struck");
        refused("the only one", -2, x -> x.strike(0, 0, 1, 3));
        refused("the first of two", -2, x -> x.strike(0, 0, 2, 3));
        refused("the last of three", -2, x -> x.strike(0, 2, 3, 3));
        refused("by a CLERK who MAY strike none", -2, x -> x.strike(3, 0, 1, 6));
        taken("up to it", 7 + 0 + 0, x -> x.strike(0, 1, 3, 3));
        Due.sentence("9: -3: THE BOOK is full");
        refused("a full BOOK", RefusalTest::fullBook, -3, x -> x.strike(0, 0, 1, 0));
        refused("a full BOOK, no such n", RefusalTest::fullBook, -1, x -> x.strike(0, 0, 10, 0));
        refused("a full BOOK, not so many", RefusalTest::fullBook, -1, x -> x.strike(0, 8, 2, 0));
        refused("a full BOOK, and it may not", RefusalTest::fullBook, -2, x -> x.strike(0, 0, 1, 3));
        taken("room for one", RefusalTest::nearlyFullBook, 3, x -> x.strike(0, 0, 1, 0));
    }

    private static void back() {
        Due.sentence("10: NONE: no STROKE of it, no such BLANK");
        refused("no STROKE of BLANK 1", -1, x -> x.back(1));
        refused("no STROKE of BLANK 5", -1, x -> x.back(5));
        refused("BLANK -1", -1, x -> x.back(-1));
        refused("BLANK 6", -1, x -> x.back(6));
        refused("BLANK 8", -1, x -> x.back(8));
        refused("BLANK MIN", -1, x -> x.back(MIN));
        refused("BLANK MAX", -1, x -> x.back(MAX));
        taken("BLANK 0", 1, x -> x.back(0));
        taken("BLANK 0 again", 2, x -> x.back(0) + x.back(0) - 1);
        taken("BLANK 0 thrice", -1, x -> x.back(0) + x.back(0) == 3 ? x.back(0) : -9);
        taken("BLANK 4", 1, x -> x.back(4));
    }

    private static void book() {
        Due.sentence("11: -1000 for others");
        refused("STROKE -1", -1000, x -> x.book(-1, 0));
        refused("STROKE 4", -1000, x -> x.book(4, 0));
        refused("STROKE 60", RefusalTest::fullBook, -1000, x -> x.book(60, 0));
        refused("STROKE MIN", -1000, x -> x.book(MIN, 0));
        refused("STROKE MAX", -1000, x -> x.book(MAX, 0));
        refused("what -1", -1000, x -> x.book(0, -1));
        for (int what = 5; what < 10; what++) {
            int no = what;
            refused("what " + no, -1000, x -> x.book(0, no));
        }
        refused("LETTER 2 of two", -1000, x -> x.book(0, 12));
        refused("LETTER 1 of one", -1000, x -> x.book(1, 11));
        refused("what 19", -1000, x -> x.book(0, 19));
        refused("what MIN", -1000, x -> x.book(0, MIN));
        refused("what MAX", -1000, x -> x.book(0, MAX));
        asks("the BLANK", 2, x -> x.book(1, 0));
        asks("the CLERK", 1, x -> x.book(0, 1));
        asks("the DAY", 10, x -> x.book(0, 2));
        asks("what it cost", 10, x -> x.book(0, 3));
        asks("how many", 2, x -> x.book(0, 4));
        asks("LETTER 0", 3, x -> x.book(0, 10));
        asks("LETTER 1", 4, x -> x.book(0, 11));
        asks("STROKE 3", 4, x -> x.book(3, 0));
    }

    private static void ways() {
        Due.sentence("12: -1: no such ones");
        refused("BLANK -1", -1, x -> x.ways(-1, 0));
        refused("BLANK 6", -1, x -> x.ways(6, 0));
        refused("DEED -1", -1, x -> x.ways(0, -1));
        refused("DEED 6 is not told", -1, x -> x.ways(0, 6));
        refused("DEED 8", -1, x -> x.ways(0, 8));
        refused("the least", -1, x -> x.ways(MIN, MIN));
        refused("the greatest", -1, x -> x.ways(MAX, MAX));
        asks("BLANK 0", 5, x -> x.ways(0, 0));
        asks("DEED 5, BLANK 2", 1, x -> x.ways(2, 5));
        asks("it does not COME", 0, x -> x.ways(5, 3));
        asks("of nothing", 0, x -> x.ways(4, 0));
    }

    private static void cheapest() {
        Due.sentence("13: NONE: no such ones");
        refused("BLANK -1", -1, x -> x.cheapest(-1, 0, 0, -1));
        refused("BLANK 6", -1, x -> x.cheapest(6, 0, 0, -1));
        refused("DEED -1", -1, x -> x.cheapest(0, -1, 0, -1));
        refused("DEED 6 is not told", -1, x -> x.cheapest(0, 6, 0, -1));
        refused("DEED 8", -1, x -> x.cheapest(0, 8, 0, -1));
        refused("CLERK -1", -1, x -> x.cheapest(0, 0, -1, -1));
        refused("CLERK 8", -1, x -> x.cheapest(0, 0, 8, -1));
        refused("what -2", -1, x -> x.cheapest(0, 0, 0, -2));
        refused("LETTER 3 of three", -1, x -> x.cheapest(0, 0, 0, 3));
        refused("what MIN", -1, x -> x.cheapest(0, 0, 0, MIN));
        refused("what MAX", -1, x -> x.cheapest(0, 0, 0, MAX));
        Due.sentence("13: -2: it can't be");
        refused("it does not COME", -2, x -> x.cheapest(0, 3, 0, -1));
        refused("it does not COME, LETTER 0", -2, x -> x.cheapest(0, 3, 0, 0));
        refused("what goes may not", -2, x -> x.cheapest(0, 0, 6, -1));
        refused("what goes may not, LETTER 2", -2, x -> x.cheapest(0, 0, 6, 2));
        refused("no a may go", -2, x -> x.cheapest(0, 1, 3, -1));
        refused("from nothing", -2, x -> x.cheapest(4, 0, 0, -1));
        asks("PRICE", 13 + 7, x -> x.cheapest(0, 0, 0, -1));
        asks("LETTER 0", 0, x -> x.cheapest(0, 0, 0, 0));
        asks("LETTER 2", 2, x -> x.cheapest(0, 0, 7, 2));
    }

    private static void done() {
        Due.sentence("14: NONE: no such ones");
        refused("BLANK -1", -1, x -> x.done(-1, 0, 0));
        refused("BLANK 6", -1, x -> x.done(6, 0, 0));
        refused("DEED -1", -1, x -> x.done(0, -1, 0));
        refused("DEED 6 is not told", -1, x -> x.done(0, 6, 0));
        refused("DEED 8", -1, x -> x.done(0, 8, 0));
        refused("CLERK -1", -1, x -> x.done(0, 0, -1));
        refused("CLERK 8", -1, x -> x.done(0, 0, 8));
        Due.sentence("14: -2: it can't be");
        refused("it does not COME", -2, x -> x.done(0, 3, 0));
        refused("what goes may not", -2, x -> x.done(0, 0, 6));
        refused("no a may go", -2, x -> x.done(0, 1, 3));
        refused("from nothing", -2, x -> x.done(4, 0, 0));
        refused("it can't be, and THE BOOK is full", RefusalTest::fullBook, -2, x -> x.done(0, 3, 0));
        Due.sentence("14: -3: THE BOOK has not so much room");
        refused("none for one", RefusalTest::fullBook, -3, x -> x.done(0, 0, 0));
        refused("one for three", RefusalTest::nearlyFullBook, -3, x -> x.done(0, 2, 0));
        taken("one for one", RefusalTest::nearlyFullBook, 1, x -> x.done(0, 0, 0));
        taken("one", 1, x -> x.done(0, 0, 0));
        taken("three", 3, x -> x.done(0, 2, 0));
        taken("five for 37 of 40", 5, x -> x.done(5, 0, 7));
    }

    private static void strokes() {
        Due.sentence("15: NONE: no such ones");
        refused("BLANK -1", -1, x -> x.strokes(-1, 0, 1));
        refused("BLANK 6", -1, x -> x.strokes(6, 0, 1));
        refused("DEED -1", -1, x -> x.strokes(0, -1, 1));
        refused("DEED 6 is not told", -1, x -> x.strokes(0, 6, 1));
        refused("DEED 8", -1, x -> x.strokes(0, 8, 1));
        refused("W 0", -1, x -> x.strokes(0, 0, 0));
        refused("W 10", -1, x -> x.strokes(0, 0, 10));
        refused("W -1", -1, x -> x.strokes(0, 0, -1));
        refused("W MIN", -1, x -> x.strokes(0, 0, MIN));
        refused("W MAX", -1, x -> x.strokes(0, 0, MAX));
        refused("W 0, and it does not COME", -1, x -> x.strokes(0, 3, 0));
        Due.sentence("15: -2: it does not COME");
        refused("it does not COME", -2, x -> x.strokes(0, 3, 1));
        refused("from nothing", -2, x -> x.strokes(4, 0, 9));
        asks("W 1", 6, x -> x.strokes(0, 0, 1));
        asks("W 9", 1, x -> x.strokes(0, 0, 9));
        Due.sentence("16: -1: no such ones");
        refused("BLANK -1", -1, x -> x.even(-1, 0, 1));
        refused("BLANK 6", -1, x -> x.even(6, 0, 1));
        refused("DEED -1", -1, x -> x.even(0, -1, 1));
        refused("DEED 6 is not told", -1, x -> x.even(0, 6, 1));
        refused("DEED 8", -1, x -> x.even(0, 8, 1));
        refused("W 0", -1, x -> x.even(0, 0, 0));
        refused("W 10", -1, x -> x.even(0, 0, 10));
        refused("W MIN", -1, x -> x.even(0, 0, MIN));
        refused("W MAX", -1, x -> x.even(0, 0, MAX));
        asks("W 1", 5, x -> x.even(0, 0, 1));
        asks("W 9", 0, x -> x.even(0, 0, 9));
        asks("it does not COME", 0, x -> x.even(0, 3, 1));
        asks("from nothing", 0, x -> x.even(4, 0, 1));
    }

    /** Sets of which one at least is no told DEED. */
    private static final int[] NO_DEEDS = {64, 65, 64 + 3, 128 + 3, 256, 256 + 3, 512 + 3, 65536 + 3, MIN, MIN + 3, -1, -64};

    private static void hidden() {
        Due.sentence("17: NONE: no such ones, not 2 or 3 of them, no such place (a row of none, too)");
        for (int bits : NO_DEEDS) refused("DEEDS " + bits, -1, x -> x.hidden(bits, -1));
        refused("none", -1, x -> x.hidden(0, -1));
        refused("one", -1, x -> x.hidden(1, -1));
        refused("four", -1, x -> x.hidden(15, -1));
        refused("six", -1, x -> x.hidden(63, -1));
        refused("what -2", -1, x -> x.hidden(3, -2));
        refused("place 2 of two", -1, x -> x.hidden(3, 2));
        refused("place 15", -1, x -> x.hidden(3, 15));
        refused("place 16", -1, x -> x.hidden(3, 16));
        refused("place MAX", -1, x -> x.hidden(3, MAX));
        refused("place MIN", -1, x -> x.hidden(3, MIN));
        refused("place 0 of none", -1, x -> x.hidden(9, 0));
        asks("two", 2, x -> x.hidden(3, -1));
        asks("three", 2, x -> x.hidden(7, -1));
        asks("place 1", 1, x -> x.hidden(3, 1));
        asks("a row of none", 0, x -> x.hidden(9, -1));
        asks("of 13 LETTERS", 1, x -> x.hidden(17, -1));
    }

    private static void shortest() {
        Due.sentence("18: NONE: no such ones, not 2 to 4 of them, what below NONE; else -2: a DEED of more than 12 LETTERS; else NONE: no such place");
        for (int bits : NO_DEEDS) {
            refused("DEEDS " + bits, -1, x -> x.shortest(bits, -1));
            refused("how many for DEEDS " + bits, -1, x -> x.shortestMany(bits));
            refused("BOUND of DEEDS " + bits, -1, x -> x.bound(bits));
        }
        for (int bits : new int[] {0, 1, 16, 47, 63}) {
            refused("not 2 to 4: " + bits, -1, x -> x.shortest(bits, -1));
            refused("not 2 to 4, how many: " + bits, -1, x -> x.shortestMany(bits));
            refused("not 2 to 4, BOUND: " + bits, -1, x -> x.bound(bits));
        }
        for (int bits : new int[] {17, 16 + 3, 16 + 7, 16 + 32}) {
            refused("13 LETTERS: " + bits, -2, x -> x.shortest(bits, -1));
            refused("13 LETTERS, place 0: " + bits, -2, x -> x.shortest(bits, 0));
            refused("13 LETTERS, no such place: " + bits, -2, x -> x.shortest(bits, 48));
            refused("13 LETTERS, below NONE: " + bits, -1, x -> x.shortest(bits, -2));
            refused("13 LETTERS, how many: " + bits, -2, x -> x.shortestMany(bits));
            refused("13 LETTERS, BOUND: " + bits, -2, x -> x.bound(bits));
        }
        refused("13 LETTERS and one that is not told", -1, x -> x.shortest(16 + 64, -1));
        refused("13 LETTERS and one that is not told, how many", -1, x -> x.shortestMany(16 + 64));
        refused("13 LETTERS and one that is not told, BOUND", -1, x -> x.bound(16 + 64));
        refused("13 LETTERS among five", -1, x -> x.shortest(31, -1));
        refused("what -2", -1, x -> x.shortest(3, -2));
        refused("what MIN", -1, x -> x.shortest(3, MIN));
        refused("place 3 of three", -1, x -> x.shortest(3, 3));
        refused("place 47", -1, x -> x.shortest(3, 47));
        refused("place 48", -1, x -> x.shortest(3, 48));
        refused("place MAX", -1, x -> x.shortest(3, MAX));
        asks("two", 3, x -> x.shortest(3, -1));
        asks("place 2", 2, x -> x.shortest(3, 2));
        asks("three", 4, x -> x.shortest(7, -1));
        asks("four", 6, x -> x.shortest(15, -1));
        asks("two, how many", 1, x -> x.shortestMany(3));
        asks("four, how many", 15, x -> x.shortestMany(15));
        asks("four, BOUND", 5, x -> x.bound(15));
    }

    private static void forged() {
        Due.sentence("21: NONE: it is not told, no such one");
        refused("DEED 6 is not told", -1, x -> x.forged(6));
        refused("DEED 7 is not told", -1, x -> x.forged(7));
        refused("DEED -1", -1, x -> x.forged(-1));
        refused("DEED 8", -1, x -> x.forged(8));
        refused("DEED MIN", -1, x -> x.forged(MIN));
        refused("DEED MAX", -1, x -> x.forged(MAX));
        asks("DEED 0", 0, x -> x.forged(0));
        asks("DEED 4", 1, x -> x.forged(4));
        asks("DEED 5", 0, x -> x.forged(5));
        Due.sentence("22: -2: some DEED does not COME from it; -1: no such ones");
        for (int bits : NO_DEEDS) refused("DEEDS " + bits, -1, x -> x.spare(0, bits));
        refused("BLANK -1", -1, x -> x.spare(-1, 1));
        refused("BLANK 6", -1, x -> x.spare(6, 1));
        refused("BLANK MAX", -1, x -> x.spare(MAX, 1));
        refused("it does not COME", -2, x -> x.spare(0, 8));
        refused("one of two does not COME", -2, x -> x.spare(0, 9));
        refused("from nothing", -2, x -> x.spare(4, 1));
        asks("DEED 0", 7 + 32 + 64 + 128 + 256 + 512 + 1024, x -> x.spare(0, 1));
        asks("no DEED", 1 + 2 + 4 + 8, x -> x.spare(1, 0));
        asks("no DEED, of nothing", 0, x -> x.spare(4, 0));
        asks("DEED 5", 1 << 4, x -> x.spare(2, 32));
    }

    private static void dayEnd() {
        Due.sentence("23: -2: that is none of them; NONE: no such ones");
        for (int bits : NO_DEEDS) refused("DEEDS " + bits, -1, x -> x.dayEnd(bits, -1));
        refused("DEEDS that are not told, what of them", -1, x -> x.dayEnd(65, 6));
        refused("empty", -1, x -> x.dayEnd(0, -1));
        refused("empty, lost", -1, x -> x.dayEnd(0, 10));
        refused("empty, DEED 0", -1, x -> x.dayEnd(0, 0));
        for (int what : new int[] {MIN, -2, 8, 9, 11, 12, 18, MAX}) refused("what " + what, -1, x -> x.dayEnd(3, what));
        for (int what : new int[] {2, 5, 6, 7}) refused("DEED " + what + " is none of them", -2, x -> x.dayEnd(3, what));
        asks("how many", 2, x -> x.dayEnd(3, -1));
        asks("lost", 2 + 6, x -> x.dayEnd(3, 10));
        asks("DEED 0", 0, x -> x.dayEnd(3, 0));
        asks("DEED 1", 1, x -> x.dayEnd(3, 1));
        asks("none", 8, x -> x.dayEnd(16, 4));
        Due.sentence("24: -1000: no such ones");
        for (int bits : NO_DEEDS) refused("DEEDS " + bits, -1000, x -> x.worth(0, bits, 0));
        refused("BLANK -1", -1000, x -> x.worth(-1, 1, 0));
        refused("BLANK 6", -1000, x -> x.worth(6, 1, 0));
        refused("BLANK MAX", -1000, x -> x.worth(MAX, 1, 0));
        refused("what -1", -1000, x -> x.worth(0, 1, -1));
        refused("what 2", -1000, x -> x.worth(0, 1, 2));
        refused("what MIN", -1000, x -> x.worth(0, 1, MIN));
        asks("DEEDS fewer", 0, x -> x.worth(0, 1, 0));
        asks("LETTERS more", 37 - 6, x -> x.worth(0, 1, 1));
        asks("BLANK 5", 0, x -> x.worth(5, 3, 1));
        asks("no DEEDS", 0, x -> x.worth(5, 0, 1));
    }

    private static void family() {
        Due.sentence("25: -2: some DEED does not COME from it, that is none of them; NONE: no such ones");
        for (int bits : NO_DEEDS) refused("DEEDS " + bits, -1, x -> x.family(0, bits, 1, -1));
        refused("BLANK -1", -1, x -> x.family(-1, 1, 1, -1));
        refused("BLANK 6", -1, x -> x.family(6, 1, 1, -1));
        refused("W 0", -1, x -> x.family(0, 1, 0, -1));
        refused("W 10", -1, x -> x.family(0, 1, 10, -1));
        refused("W MIN", -1, x -> x.family(0, 1, MIN, -1));
        refused("W MAX", -1, x -> x.family(0, 1, MAX, -1));
        for (int what : new int[] {MIN, -2, 8, 9, 10, MAX}) refused("what " + what, -1, x -> x.family(0, 1, 1, what));
        refused("W 0, and one does not COME", -1, x -> x.family(0, 8, 0, -1));
        refused("what 8, and one does not COME", -1, x -> x.family(0, 8, 1, 8));
        refused("one does not COME", -2, x -> x.family(0, 8, 1, -1));
        refused("one of two does not COME", -2, x -> x.family(0, 9, 1, 0));
        for (int what : new int[] {1, 5, 6, 7}) refused("DEED " + what + " is none of them", -2, x -> x.family(0, 1, 1, what));
        asks("together", 9 + 1 + 9, x -> x.family(0, 7, 1, -1));
        asks("W 9", 1 + 1 + 2, x -> x.family(0, 7, 9, -1));
        asks("the BLANK", 8, x -> x.family(0, 7, 1, 0));
        asks("a DEED", 0, x -> x.family(0, 7, 1, 1));
        asks("as written, of nothing LEFT", 0, x -> x.family(4, 0, 1, -1));
    }

    private static void chain() {
        Due.sentence("26: -2: no such place; NONE: no such ones");
        refused("BLANK -1", -1, x -> x.chain(-1, -1));
        refused("BLANK 6", -1, x -> x.chain(6, -1));
        refused("BLANK MIN", -1, x -> x.chain(MIN, -1));
        refused("BLANK MAX", -1, x -> x.chain(MAX, -1));
        refused("BLANK 6, no such place", -1, x -> x.chain(6, 8));
        refused("what -2", -1, x -> x.chain(0, -2));
        refused("what MIN", -1, x -> x.chain(0, MIN));
        refused("place 2 of two", -2, x -> x.chain(0, 2));
        refused("place 8", -2, x -> x.chain(0, 8));
        refused("place MAX", -2, x -> x.chain(0, MAX));
        refused("place 0 of none", -2, x -> x.chain(4, 0));
        asks("how long", 2, x -> x.chain(0, -1));
        asks("place 0", 0, x -> x.chain(0, 0));
        asks("place 1", 1, x -> x.chain(0, 1));
        asks("none", 0, x -> x.chain(4, -1));
    }

    private static void seed() {
        Due.sentence("27: false: no such number");
        refused("-1", 0, x -> x.seed(-1) ? 1 : 0);
        refused("65536", 0, x -> x.seed(65536) ? 1 : 0);
        refused("MIN", 0, x -> x.seed(MIN) ? 1 : 0);
        refused("MAX", 0, x -> x.seed(MAX) ? 1 : 0);
        taken("0", 1, x -> x.seed(0) ? 1 : 0);
        taken("65535", 1, x -> x.seed(65535) ? 1 : 0);
        taken("X is 65535", 65535, x -> x.seed(65535) ? x.count(6) : -9);
        Due.sentence("28: NONE: no such ones");
        refused("BLANK -1", -1, x -> x.draw(-1, 1));
        refused("BLANK 6", -1, x -> x.draw(6, 1));
        refused("BLANK MAX", -1, x -> x.draw(MAX, 1));
        refused("0 times", -1, x -> x.draw(0, 0));
        refused("-1 times", -1, x -> x.draw(0, -1));
        refused("41 times", -1, x -> x.draw(0, 41));
        refused("MIN times", -1, x -> x.draw(0, MIN));
        refused("MAX times", -1, x -> x.draw(0, MAX));
        asks("of nothing LEFT", 0, x -> x.draw(4, 40));
        taken("once, by CLERK 1", 1, x -> x.seed(0) ? x.draw(3, 1) : -9);
        taken("once, by CLERK 6 who may not", 0, x -> x.seed(1) ? x.draw(3, 1) : -9);
        taken("40 times, one stays", RefusalTest::bare, 8, x -> x.law("n(1=2)") == 1 ? x.draw(0, 40) : -9);
    }

    private static void check() {
        Due.sentence("29: -2: no such one, it has not so many (the tape stays)");
        refused("BLANK -1", -2, x -> x.check(-1, 1));
        refused("BLANK 6", -2, x -> x.check(6, 1));
        refused("BLANK MAX", -2, x -> x.check(MAX, 1));
        refused("BLANK 6, no numbers", -2, x -> x.check(6, 0));
        refused("6 of 5", -2, x -> x.check(0, 6));
        refused("1 of 0", RefusalTest::bare, -2, x -> x.check(0, 1));
        refused("-1", -2, x -> x.check(0, -1));
        refused("MIN", -2, x -> x.check(0, MIN));
        refused("MAX", -2, x -> x.check(0, MAX));
        refused("so many that four times of it wrap", -2, x -> x.check(0, 1 << 30));
        Due.sentence("29: (four bytes each; empty then)");
        String right = "";
        for (char c : "abccabcab".toCharArray()) right += "\0\0\0" + (char) (c - 'a');
        tapeTaken("right", right, -1, x -> x.check(0, 9));
        tapeTaken("some are lacking", right, 8, x -> x.check(0, 8));
        tapeTaken("one too many", right, 9, x -> x.check(0, 10));
        tapeTaken("wrong at 0", right, 0, x -> x.check(2, 4));
        tapeTaken("5 of 5", LETTERS, 0, x -> x.check(0, 5));
        tapeTaken("0 of 5", LETTERS, 0, x -> x.check(0, 0));
        tapeTaken("right, of nothing LEFT", LETTERS, -1, x -> x.check(4, 0));
    }

    private static void count() {
        Due.sentence("30: NONE for others");
        for (int what : new int[] {MIN, -2, -1, 8, 9, 16, 17, 18, 19, 28, 29, 30, 255, MAX}) refused("count(" + what + ")", -1, x -> x.count(what));
        refused("count(18), 8 are there", RefusalTest::eightBlanks, -1, x -> x.count(18));
        int[] want = {6, 63, 5, 20, 40, 4, 777, 10 + 3 + 0 + 3};
        for (int k = 0; k < 8; k++) {
            int what = k;
            asks("count(" + what + ")", want[what], x -> x.count(what));
        }
        int[] left = {9, 4, 4, 20, 0, 40};
        for (int k = 0; k < 6; k++) {
            int b = k;
            asks("count(10 + " + b + ")", left[b], x -> x.count(10 + b));
        }
        int[] size = {3, 2, 3, 2, 13, 3, 0, 0};
        for (int k = 0; k < 8; k++) {
            int i = k;
            asks("count(20 + " + i + ")", size[i], x -> x.count(20 + i));
        }
        taken("count(17), 8 are there", RefusalTest::eightBlanks, 2, x -> x.count(17));
    }

    public static void main(String[] args) {
        day();
        feed();
        blank();
        deed();
        law();
        left();
        may();
        strike();
        back();
        book();
        ways();
        cheapest();
        done();
        strokes();
        hidden();
        shortest();
        forged();
        dayEnd();
        family();
        chain();
        seed();
        check();
        count();
        Due.end();
    }
}

/** The boundary cases that the sentences of "==== 3." name, in the document's order. */
public final class DaysTest {
    private static Office x = new Office();

    private static void start(String sentence) {
        Due.sentence(sentence);
        x = new Office();
    }

    private static String some(String part, int times) { return part.repeat(times); }

    /** How many get one, how many LETTERS are lost, and the row of BLANKS. */
    private static void end(int deeds, int many, int lost, int... row) {
        Due.is("how many of " + deeds, many, x.dayEnd(deeds, -1));
        Due.is("lost by " + deeds, lost, x.dayEnd(deeds, 10));
        int k = 0;
        for (int i = 0; i < 8; i++) {
            if ((deeds >> i & 1) == 1) Due.is("of " + deeds + " the BLANK of DEED " + i, row[k++], x.dayEnd(deeds, i));
            else Due.is("of " + deeds + " DEED " + i + " is none", -2, x.dayEnd(deeds, i));
        }
    }

    private static void orNone() {
        start("THE DAY'S END: each told DEED (bits) gets a BLANK of its own from which (as LEFT) it COMES, or none");
        x.deed(0, "ab");
        x.deed(1, "ab");
        x.deed(2, "zz");
        end(1, 0, 0, 8);
        end(7, 0, 0, 8, 8, 8);
        x.blank("abc");
        end(1, 1, 1, 0);
        end(2, 1, 1, 0);
        end(3, 1, 1, 0, 8);
        end(4, 0, 0, 8);
        end(7, 1, 1, 0, 8, 8);
        x.blank("ab");
        end(3, 2, 1, 0, 1);
        end(7, 2, 1, 0, 1, 8);
        x.strike(0, 0, 1, 0);
        end(3, 1, 0, 1, 8);
        x.strike(1, 0, 2, 0);
        end(3, 0, 0, 8, 8);
        Due.is("not told", -1, x.dayEnd(8, -1));
        Due.is("not told among told ones", -1, x.dayEnd(15, -1));
        Due.is("empty", -1, x.dayEnd(0, -1));
        Due.is("empty, lost", -1, x.dayEnd(0, 10));
        Due.is("empty, DEED 0", -1, x.dayEnd(0, 0));
        Due.is("what 8", -1, x.dayEnd(7, 8));
        Due.is("what 9", -1, x.dayEnd(7, 9));
        Due.is("what 11", -1, x.dayEnd(7, 11));
        Due.is("what -2", -1, x.dayEnd(7, -2));
        Due.is("DEED 7 is none of them", -2, x.dayEnd(7, 7));
        Due.is("bit 8", -1, x.dayEnd(256, -1));
        Due.is("bit 8 and told ones", -1, x.dayEnd(256 + 7, -1));
        Due.is("bit 31", -1, x.dayEnd(Integer.MIN_VALUE, -1));
        Due.is("bit 31 and told ones", -1, x.dayEnd(Integer.MIN_VALUE + 7, -1));
    }

    private static void mostFirst() {
        start("THE DAY'S END: most of them get one; of like ones fewest LETTERS are lost");
        x.blank("a");
        x.blank(some("ab", 20));
        x.deed(0, "a");
        x.deed(1, "b");
        end(3, 2, 39, 0, 1);
        end(1, 1, 0, 0);
        end(2, 1, 39, 1);
        x.deed(1, "a");
        end(3, 2, 39, 0, 1);
        x.deed(2, "ba");
        end(7, 2, 38, 0, 8, 1);
        Due.sentence("THE DAY'S END: together");
        x.blank("aab");
        x.blank("abb");
        x.deed(3, "ab");
        x.deed(4, "a");
        x.deed(5, "bb");
        end(8 + 32, 2, 2, 2, 3);
        end(8 + 16 + 32, 3, 2, 2, 0, 3);
    }

    private static void leastRow() {
        start("THE DAY'S END: of like ones the least row by DEEDS (none behind all BLANKS)");
        for (int b = 0; b < 8; b++) x.blank("ab");
        for (int i = 0; i < 8; i++) x.deed(i, "a");
        end(255, 8, 8, 0, 1, 2, 3, 4, 5, 6, 7);
        end(128, 1, 1, 0);
        end(129, 2, 2, 0, 1);
        x.strike(0, 0, 2, 0);
        end(255, 7, 7, 1, 2, 3, 4, 5, 6, 7, 8);
        x.strike(3, 1, 1, 0);
        end(255, 7, 6, 1, 2, 3, 4, 5, 6, 7, 8);
        end(3, 2, 1, 1, 3);
        end(1, 1, 0, 3);
        x.deed(0, "b");
        end(255, 7, 6, 1, 2, 3, 4, 5, 6, 7, 8);
        x.deed(0, "c");
        end(255, 7, 6, 8, 1, 2, 3, 4, 5, 6, 7);
        x.deed(7, "ab");
        end(255, 7, 5, 8, 1, 2, 3, 4, 5, 6, 7);
        end(254, 7, 5, 1, 2, 3, 4, 5, 6, 7);
    }

    private static void largest() {
        start("THE DAY'S END of eight BLANKS of 40 and eight DEEDS of one LETTER");
        for (int b = 0; b < 8; b++) x.blank(some("a", 40));
        for (int i = 0; i < 8; i++) x.deed(i, "a");
        Due.is("all eight", 8, x.dayEnd(255, -1));
        Due.is("312 LETTERS are lost", 312, x.dayEnd(255, 10));
        Due.is("one DEED fewer", 1, x.worth(7, 255, 0));
        Due.is("39 LETTERS fewer", -39, x.worth(7, 255, 1));
        Due.is("of seven, none fewer", 0, x.worth(7, 127, 0));
        Due.is("of seven, none more", 0, x.worth(0, 127, 1));
    }

    private static void worth() {
        start("WORTH of a BLANK: without it so many fewer DEEDS, and so many LETTERS more are lost (may be below 0)");
        x.blank("ab");
        x.deed(0, "ab");
        x.deed(1, "a");
        x.deed(2, "z");
        Due.is("the only one, DEEDS", 1, x.worth(0, 1, 0));
        Due.is("the only one, LETTERS", 0, x.worth(0, 1, 1));
        Due.is("the only one that loses one, LETTERS", -1, x.worth(0, 2, 1));
        Due.is("for two", 1, x.worth(0, 3, 0));
        Due.is("for two", 0, x.worth(0, 3, 1));
        Due.is("for none that COMES", 0, x.worth(0, 4, 0));
        Due.is("for none that COMES", 0, x.worth(0, 4, 1));
        Due.is("for no DEEDS", 0, x.worth(0, 0, 0));
        Due.is("for no DEEDS", 0, x.worth(0, 0, 1));
        x.blank("abcd");
        Due.is("another is there, DEEDS", 0, x.worth(0, 1, 0));
        Due.is("another is there, LETTERS more", 2, x.worth(0, 1, 1));
        Due.is("it is not used, DEEDS", 0, x.worth(1, 1, 0));
        Due.is("it is not used, LETTERS", 0, x.worth(1, 1, 1));
        Due.is("one DEED fewer", 1, x.worth(1, 3, 0));
        Due.is("three LETTERS fewer are lost", -3, x.worth(1, 3, 1));
        x.strike(0, 0, 2, 0);
        Due.is("nothing is LEFT of it", 0, x.worth(0, 3, 0));
        Due.is("nothing is LEFT of it", 0, x.worth(0, 3, 1));
        Due.is("the other, as LEFT", 1, x.worth(1, 3, 0));
        Due.is("what -1", -1000, x.worth(0, 1, -1));
        Due.is("what 2", -1000, x.worth(0, 1, 2));
        Due.is("BLANK -1", -1000, x.worth(-1, 1, 0));
        Due.is("BLANK 2", -1000, x.worth(2, 1, 0));
        Due.is("DEED 3 is not told", -1000, x.worth(0, 8, 0));
        Due.is("bit 8", -1000, x.worth(0, 257, 0));
        Due.is("bit 31", -1000, x.worth(0, Integer.MIN_VALUE, 0));
    }

    private static void family() {
        start("A FAMILY: each DEED's PARENT is the BLANK or another of them, that is longer, or as long and of a lower number");
        x.blank("abcdabcd");
        x.deed(0, "ab");
        x.deed(1, "abcd");
        x.deed(2, "abcd");
        x.deed(3, "abd");
        x.deed(4, "cc");
        x.deed(5, "z");
        Due.is("one alone", 8, x.family(0, 1, 1, 0));
        Due.is("one alone, STROKES", 6, x.family(0, 1, 1, -1));
        Due.is("a longer one of a higher number", 3, x.family(0, 9, 1, 0));
        Due.is("the longer one's own", 8, x.family(0, 9, 1, 3));
        Due.is("STROKES of both", 5 + 1, x.family(0, 9, 1, -1));
        Due.is("as long, the lower has the BLANK", 8, x.family(0, 6, 1, 1));
        Due.is("as long, the higher has the lower", 1, x.family(0, 6, 1, 2));
        Due.is("STROKES of both", 4, x.family(0, 6, 1, -1));
        Due.is("as long but another row", 8, x.family(0, 17, 1, 4));
        Due.is("as long but another row", 8, x.family(0, 17, 1, 0));
        Due.sentence("A FAMILY: by which it takes fewest STROKES of W; of like ones the BLANK, then the lowest DEED");
        Due.is("the lowest of two alike", 1, x.family(0, 14, 1, 3));
        Due.is("the lowest of those with one STROKE of two", 1, x.family(0, 7, 2, 0));
        Due.is("fewest by another", 3, x.family(0, 15, 1, 0));
        Due.is("of like ones the lowest, not the nearest", 1, x.family(0, 15, 2, 0));
        Due.is("the BLANK ahead of all", 8, x.family(0, 15, 6, 0));
        Due.is("a DEED when the BLANK takes one more", 1, x.family(0, 15, 5, 0));
        Due.is("STROKES of 6", 1 + 1 + 0 + 1, x.family(0, 15, 6, -1));
        Due.is("W 9", 3, x.family(0, 15, 9, -1));
        Due.is("W 1", 1 + 4 + 0 + 1, x.family(0, 15, 1, -1));
        Due.is("W 0", -1, x.family(0, 15, 0, -1));
        Due.is("W 10", -1, x.family(0, 15, 10, -1));
        Due.sentence("A FAMILY of a BLANK (as written) and some DEEDS that all COME from it");
        Due.is("one does not COME", -2, x.family(0, 32, 1, -1));
        Due.is("one of them does not COME", -2, x.family(0, 33, 1, -1));
        Due.is("one of them does not COME, the PARENT of another", -2, x.family(0, 33, 1, 0));
        Due.is("that is none of them", -2, x.family(0, 1, 1, 1));
        Due.is("that is none of them, and not told", -2, x.family(0, 1, 1, 7));
        Due.is("what 8", -1, x.family(0, 1, 1, 8));
        Due.is("what -2", -1, x.family(0, 1, 1, -2));
        Due.is("not told", -1, x.family(0, 64, 1, -1));
        Due.is("not told among told ones", -1, x.family(0, 65, 1, -1));
        Due.is("bit 8", -1, x.family(0, 257, 1, -1));
        Due.is("BLANK 1", -1, x.family(1, 1, 1, -1));
        Due.is("BLANK -1", -1, x.family(-1, 1, 1, -1));
        Due.is("no DEEDS", 0, x.family(0, 0, 1, -1));
        Due.is("DEED 0 is none of no DEEDS", -2, x.family(0, 0, 1, 0));
        x.strike(0, 0, 8, 0);
        Due.is("as written", 1 + 4 + 0 + 1, x.family(0, 15, 1, -1));
        Due.is("as written", 8, x.family(0, 15, 1, 1));
    }

    private static void familyOfAll() {
        start("A FAMILY of eight DEEDS");
        x.blank(some("a", 40));
        for (int i = 0; i < 8; i++) x.deed(i, some("a", 2 * (i + 1)));
        int together = 40 - 16;
        for (int i = 0; i < 7; i++) {
            Due.is("PARENT of " + i, i + 1, x.family(0, 255, 1, i));
            together += 2;
        }
        Due.is("PARENT of 7", 8, x.family(0, 255, 1, 7));
        Due.is("together", together, x.family(0, 255, 1, -1));
        for (int i = 0; i < 8; i++) x.deed(i, some("a", 16));
        for (int i = 0; i < 8; i++) Due.is("PARENT of " + i + " of eight alike", i == 0 ? 8 : 0, x.family(0, 255, 9, i));
        Due.is("together", 3, x.family(0, 255, 9, -1));
        x.blank(some("a", 16));
        for (int i = 0; i < 8; i++) Due.is("the BLANK is alike, too: PARENT of " + i, 8, x.family(1, 255, 1, i));
        Due.is("together", 0, x.family(1, 255, 1, -1));
    }

    /** The CHAIN of a BLANK. */
    private static void chained(int b, int... row) {
        Due.is("how long", row.length, x.chain(b, -1));
        for (int k = 0; k < row.length; k++) Due.is("place " + k, row[k], x.chain(b, k));
        Due.is("behind the last place", -2, x.chain(b, row.length));
    }

    private static void chain() {
        start("A CHAIN of a BLANK (as LEFT): some DEEDS, of which the first COMES from it, each next one from the one before");
        x.blank("abcd");
        chained(0);
        x.deed(7, "z");
        chained(0);
        x.deed(6, "a");
        chained(0, 6);
        x.deed(5, "ab");
        chained(0, 5, 6);
        x.deed(0, "abcd");
        chained(0, 0, 5, 6);
        x.deed(1, "abcde");
        chained(0, 0, 5, 6);
        Due.sentence("A CHAIN: none twice");
        x.deed(2, "ab");
        chained(0, 0, 2, 5, 6);
        x.deed(3, "a");
        chained(0, 0, 2, 5, 3, 6);
        Due.sentence("A CHAIN: of like ones the least row");
        x.deed(4, "b");
        chained(0, 0, 2, 5, 3, 6);
        x.deed(6, "b");
        chained(0, 0, 2, 5, 4, 6);
        x.deed(3, "d");
        x.deed(4, "c");
        chained(0, 0, 2, 5, 6);
        x.deed(1, "cd");
        chained(0, 0, 2, 5, 6);
        x.deed(6, "z");
        chained(0, 0, 1, 3);
        Due.sentence("A CHAIN of a BLANK (as LEFT)");
        x.strike(0, 0, 1, 0);
        chained(0, 1, 3);
        x.strike(0, 2, 1, 0);
        chained(0, 4);
        x.strike(0, 0, 2, 0);
        chained(0);
        Due.is("what -2", -1, x.chain(0, -2));
        Due.is("BLANK 1", -1, x.chain(1, -1));
        Due.is("BLANK -1", -1, x.chain(-1, -1));
        Due.is("BLANK 1, no such place", -1, x.chain(1, 50));
    }

    private static void chainOfAll() {
        start("A CHAIN of eight DEEDS");
        x.blank(some("a", 16));
        for (int i = 0; i < 8; i++) x.deed(i, "a");
        chained(0, 0, 1, 2, 3, 4, 5, 6, 7);
        for (int i = 0; i < 8; i++) x.deed(i, some("a", 2 * i + 2));
        chained(0, 7, 6, 5, 4, 3, 2, 1, 0);
        x.strike(0, 0, 1, 0);
        chained(0, 6, 5, 4, 3, 2, 1, 0);
        for (int i = 0; i < 8; i++) x.deed(i, some("a", 8 - i / 2));
        chained(0, 0, 1, 2, 3, 4, 5, 6, 7);
        Due.is("place 8", -2, x.chain(0, 8));
    }

    private static int next(int seed) { return (int) ((25173L * seed + 13849) % 65536); }

    private static void drawn() {
        start("DRAWN: n times (1 to 40), while more than one LETTER is LEFT");
        x.blank(some("a", 40));
        Due.is("0 times", -1, x.draw(0, 0));
        Due.is("-1 times", -1, x.draw(0, -1));
        Due.is("41 times", -1, x.draw(0, 41));
        Due.is("X stays", 1, x.count(6));
        Due.is("nothing STRUCK", 40, x.count(10));
        Due.is("once", 1, x.draw(0, 1));
        Due.is("X", next(1), x.count(6));
        Due.is("39 are LEFT", 39, x.count(10));
        Due.is("40 times, but one must stay", 38, x.draw(0, 40));
        int after = 1;
        for (int k = 0; k < 39; k++) after = next(after);
        Due.is("X went on 39 times", after, x.count(6));
        Due.is("one is LEFT", 1, x.count(10));
        Due.is("39 STROKES", 39, x.count(5));
        Due.is("none any more", 0, x.draw(0, 40));
        Due.is("X stays then", after, x.count(6));
        x.strike(0, 0, 1, 0);
        Due.is("of none", 0, x.draw(0, 1));
        Due.is("X stays then, too", after, x.count(6));
        x.blank("ab");
        Due.is("of two", 1, x.draw(1, 40));
        Due.is("X went on once", next(after), x.count(6));
        x.blank("q");
        Due.is("of one", 0, x.draw(2, 40));
        Due.is("X stays", next(after), x.count(6));
    }

    private static void drawnBans() {
        start("DRAWN: is struck by CLERK X modulo 8, if it MAY");
        x.blank(some("ab", 20));
        x.law("n(k<8)");
        Due.is("40 times, none MAY", 0, x.draw(0, 40));
        int after = 1;
        for (int k = 0; k < 40; k++) after = next(after);
        Due.is("X went on 40 times", after, x.count(6));
        Due.is("no STROKE", 0, x.count(5));
        x.seed(1);
        x.day(12);
        x.law("n(i=0-1);pk*10+i/4(1=1)");
        Due.is("three", 3, x.draw(0, 3));
        int drawn = 1;
        for (int k = 0; k < 3; k++) {
            drawn = next(drawn);
            Due.is("CLERK of " + k, drawn % 8, x.book(k, 1));
            Due.is("DAY of " + k, 12, x.book(k, 2));
            Due.is("PRICE of " + k, drawn % 8 * 10 + drawn % (40 - k) / 4, x.book(k, 3));
            Due.is("one LETTER of " + k, 1, x.book(k, 4));
            Due.is("no second LETTER of " + k, -1000, x.book(k, 11));
        }
        Due.is("the first LETTER", next(1) % 40, x.book(0, 10));
        Due.sentence("DRAWN: a LETTER that may not be struck stays, the next is drawn all the same");
        x.blank(some("ab", 20));
        x.seed(1);
        x.law("n(k=" + next(1) % 8 + ")");
        Due.is("two draws", next(next(1)) % 8 == next(1) % 8 ? 0 : 1, x.draw(1, 2));
        Due.is("the second one's LETTER", next(next(1)) % 40, x.book(3, 10));
        Due.is("X", next(next(1)), x.count(6));
    }

    private static void modulo() {
        start("X = (25173 X + 13849) modulo 65536 (X is THE SEED at first, 1)");
        Due.is("at first", 1, x.count(6));
        x.blank("ab");
        x.law("n(1=1)");
        int[] seeds = {0, 1, 2, 65535, 65534, 32768, 32767, 5, 51647};
        for (int seed : seeds) {
            Due.is("seed " + seed, true, x.seed(seed));
            Due.is("X is " + seed, seed, x.count(6));
            Due.is("drawn from " + seed, 0, x.draw(0, 1));
            Due.is("X from " + seed, (25173L * seed + 13849) % 65536, x.count(6));
        }
        Due.is("39022 from 1", 39022, next(1));
        int before = x.count(6);
        Due.is("seed -1", false, x.seed(-1));
        Due.is("seed 65536", false, x.seed(65536));
        Due.is("the least int", false, x.seed(Integer.MIN_VALUE));
        Due.is("the greatest int", false, x.seed(Integer.MAX_VALUE));
        Due.is("X stays", before, x.count(6));
        Due.is("seed 0", true, x.seed(0));
        Due.is("X 0", 0, x.count(6));
    }

    private static void fullBook() {
        start("(A full BOOK: none any more, X goes on.)");
        x.blank(some("a", 40));
        x.blank(some("a", 40));
        for (int k = 0; k < 29; k++) x.strike(0, 0, 1, 0);
        for (int k = 0; k < 29; k++) x.strike(1, 0, 1, 0);
        Due.is("58", 58, x.count(5));
        Due.is("ten times, two of them", 2, x.draw(0, 10));
        int after = 1;
        for (int k = 0; k < 10; k++) after = next(after);
        Due.is("X went on ten times", after, x.count(6));
        Due.is("60", 60, x.count(5));
        Due.is("40 times, none of them", 0, x.draw(1, 40));
        for (int k = 0; k < 40; k++) after = next(after);
        Due.is("X went on 40 times", after, x.count(6));
        Due.is("11 are LEFT", 11, x.count(11));
        Due.is("9 are LEFT", 9, x.count(10));
    }

    private static void check() {
        start("CHECK of a BLANK: LETTERS that are LEFT (0 to 25), by PLACES: right, or the first number that is not so");
        x.blank("azb");
        x.numbers(0, 25, 1);
        Due.is("right", -1, x.check(0, 3));
        Due.is("the tape is empty", 0, x.count(3));
        int[][] wrong = {{1, 25, 1}, {0, 24, 1}, {0, 25, 0}, {0, 26, 1}, {-1, 25, 1}, {256, 25, 1}, {0, 25, 65537}, {0, 25 + (1 << 24), 1}, {97, 25, 1}};
        int[] first = {0, 1, 2, 1, 0, 0, 2, 1, 0};
        for (int k = 0; k < wrong.length; k++) {
            x.numbers(wrong[k]);
            Due.is("wrong " + k, first[k], x.check(0, 3));
            Due.is("the tape is empty", 0, x.count(3));
        }
        for (int bit = 5; bit < 32; bit++) {
            x.numbers(1 << bit, 25, 1);
            Due.is("bit " + bit, 0, x.check(0, 3));
            x.numbers(0, 25, 1 + (1 << bit));
            Due.is("bit " + bit, 2, x.check(0, 3));
        }
        x.numbers(1, 24, 0);
        Due.is("the first of three wrong ones", 0, x.check(0, 3));
        Due.sentence("CHECK: (n: some are lacking)");
        x.numbers(0, 25);
        Due.is("one is lacking", 2, x.check(0, 2));
        x.numbers(0);
        Due.is("two are lacking", 1, x.check(0, 1));
        x.numbers(0, 24);
        Due.is("one is lacking, one is wrong", 1, x.check(0, 2));
        x.numbers(0);
        Due.is("all are lacking", 0, x.check(0, 0));
        Due.is("the tape is empty", 0, x.count(3));
        Due.is("all are lacking, of an empty tape", 0, x.check(0, 0));
        Due.sentence("CHECK: more than are LEFT");
        x.numbers(0, 25, 1, 0);
        Due.is("one too many", 3, x.check(0, 4));
        x.numbers(0, 25, 0, 0);
        Due.is("one too many, and one wrong", 2, x.check(0, 4));
        x.numbers(0, 25, 1, -1, -1);
        Due.is("two too many that are no LETTERS", 3, x.check(0, 5));
        x.strike(0, 0, 1, 0);
        x.numbers(25, 1);
        Due.is("by PLACES of what is LEFT", -1, x.check(0, 2));
        x.strike(0, 0, 2, 0);
        x.numbers(25);
        Due.is("one, though none is LEFT", 0, x.check(0, 1));
        x.numbers(-1);
        Due.is("one that is no LETTER, though none is LEFT", 0, x.check(0, 1));
        Due.is("none, and none is LEFT", -1, x.check(0, 0));
        Due.sentence("CHECK: -2: no such one, it has not so many (the tape stays)");
        x.numbers(25);
        Due.is("BLANK -1", -2, x.check(-1, 1));
        Due.is("BLANK 1", -2, x.check(1, 1));
        Due.is("six of five", -2, x.check(0, 6));
        Due.is("-1", -2, x.check(0, -1));
        Due.is("so many that four times of it wrap to 0", -2, x.check(0, 1 << 30));
        Due.is("so many that four times of it wrap to 4", -2, x.check(0, (1 << 30) + 1));
        Due.is("the tape stays", 20, x.count(3));
        Due.is("five of five", 0, x.check(0, 5));
        Due.is("the tape is empty", 0, x.count(3));
    }

    private static void longCheck() {
        start("CHECK of 40 LETTERS by a tape of 200 bytes");
        x.blank("abcdefghijklmnopqrstuvwxyzabcdefghijklmn");
        int[] all = new int[50];
        for (int k = 0; k < 50; k++) all[k] = k < 40 ? k % 26 : 0;
        x.numbers(all);
        Due.is("200 bytes", 200, x.count(3));
        Due.is("51", -2, x.check(0, 51));
        Due.is("40", -1, x.check(0, 40));
        x.numbers(all);
        Due.is("50", 40, x.check(0, 50));
        x.numbers(all);
        Due.is("39", 39, x.check(0, 39));
        all[39] = 14;
        x.numbers(all);
        Due.is("the last is wrong", 39, x.check(0, 40));
        Due.is("the tape is empty", 0, x.count(3));
    }

    public static void main(String[] args) {
        orNone();
        mostFirst();
        leastRow();
        largest();
        worth();
        family();
        familyOfAll();
        chain();
        chainOfAll();
        drawn();
        drawnBans();
        modulo();
        fullBook();
        check();
        longCheck();
        Due.end();
    }
}

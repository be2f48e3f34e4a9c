/** The boundary cases that the sentences under "Terms" name, in the document's order, but for THE LAW (LawTest). */
public final class TermsTest {
    private static Office x = new Office();

    private static void start(String sentence) {
        Due.sentence(sentence);
        x = new Office();
    }

    private static String some(String part, int times) { return part.repeat(times); }

    private static final int[] NO_LETTERS = {0, 1, 'A', 'Z', '`', '{', 127, 128, 0x61 + 128, 0x7a + 128, 225, 255};

    private static void letters() {
        start("LETTERS a to z (0 to 25)");
        x.blank("abcdefghijklmnopqrstuvwxyz");
        for (int k = 0; k < 26; k++) Due.is("LETTER " + k, k, x.left(0, k, 0));
        Due.is("a DEED of a and z", 2, x.deed(0, "az"));
        Due.is("a and z are LETTERS of it", 1, x.ways(0, 0));
        for (int sign : NO_LETTERS) {
            String s = "" + (char) sign;
            Due.is("a BLANK of byte " + sign, -2, x.blank(s));
            Due.is("a BLANK with byte " + sign + " first", -2, x.blank(s + "ab"));
            Due.is("a BLANK with byte " + sign + " last", -2, x.blank("ab" + s));
            Due.is("a DEED of byte " + sign, -2, x.deed(1, s));
            Due.is("a DEED with byte " + sign + " first", -2, x.deed(1, s + "ab"));
            Due.is("a DEED with byte " + sign + " last", -2, x.deed(1, "ab" + s));
        }
        Due.is("no BLANK of these", 1, x.count(0));
        Due.is("no DEED of these", 1, x.count(1));
        x.feed("ab{d");
        Due.is("what stands behind the first n bytes is not asked, BLANK", 1, x.blank(2));
        x.feed("ab{d");
        Due.is("what stands behind the first n bytes is not asked, DEED", 2, x.deed(1, 2));
        x.feed(some("a", 39) + "{");
        Due.is("the 40th byte is no LETTER", -2, x.blank(40));
        x.feed(some("a", 15) + "{");
        Due.is("the 16th byte is no LETTER", -2, x.deed(1, 16));
        x.feed(some("a", 39) + "{");
        Due.is("39 bytes ahead of it", 2, x.blank(39));
    }

    private static void blanks() {
        start("BLANKS 0 to 7: rows of 1 to 40 LETTERS, as they were written");
        x.feed(some("a", 60));
        Due.is("0 LETTERS", -1, x.blank(0));
        Due.is("41 LETTERS", -1, x.blank(41));
        Due.is("40 LETTERS", 0, x.blank(40));
        Due.is("40 LEFT", 40, x.count(10));
        Due.is("1 LETTER", 1, x.blank("q"));
        Due.is("1 LEFT", 1, x.count(11));
        for (int b = 2; b < 8; b++) Due.is("BLANK " + b, b, x.blank(some("" + (char) ('a' + b), b)));
        Due.is("no BLANK 8", -1, x.blank("ab"));
        Due.is("no LETTERS of BLANK 8", -1, x.count(18));
        for (int b = 2; b < 8; b++) {
            Due.is("LETTERS of BLANK " + b, b, x.count(10 + b));
            Due.is("the first of BLANK " + b, b, x.left(b, 0, 0));
            Due.is("the last of BLANK " + b, b, x.left(b, b - 1, 0));
            Due.is("behind the last of BLANK " + b, -1, x.left(b, b, 0));
        }
        x.strike(7, 0, 7, 7);
        Due.is("nothing LEFT of BLANK 7", 0, x.count(17));
        Due.is("all LEFT of BLANK 6", 6, x.count(16));
        Due.is("a ninth is none, though one is STRUCK whole", -1, x.blank("ab"));
    }

    private static void places() {
        start("PLACES (0 on) are those of what is LEFT, LETTERS' own numbers those of what was written");
        x.blank("abcdefghijklmnopqrstuvwxyzabcdefghijklmn");
        Due.is("PLACE 39", 39, x.left(0, 39, 1));
        Due.is("PLACE 40", -1, x.left(0, 40, 1));
        x.strike(0, 0, 1, 0);
        Due.is("PLACE 0 behind a STRUCK first", 1, x.left(0, 0, 1));
        Due.is("its LETTER", 1, x.left(0, 0, 0));
        Due.is("PLACE 38", 39, x.left(0, 38, 1));
        Due.is("PLACE 39 is none any more", -1, x.left(0, 39, 1));
        x.strike(0, 38, 1, 0);
        Due.is("PLACE 37 ahead of a STRUCK last", 38, x.left(0, 37, 1));
        Due.is("PLACE 38 is none any more", -1, x.left(0, 38, 0));
        x.strike(0, 10, 3, 0);
        Due.is("ahead of a gap", 10, x.left(0, 9, 1));
        Due.is("behind a gap", 14, x.left(0, 10, 1));
        for (int k = 0; k < 4; k++) x.strike(0, 0, 8, 0);
        Due.is("three LEFT", 3, x.count(10));
        Due.is("their LETTERS", 10, x.left(0, 0, 0));
        Due.is("their numbers", 36, x.left(0, 0, 1));
        x.strike(0, 0, 2, 0);
        Due.is("the only one LEFT", 38, x.left(0, 0, 1));
        Due.is("none behind it", -1, x.left(0, 1, 1));
        x.strike(0, 0, 1, 0);
        Due.is("all STRUCK", 0, x.count(10));
        Due.is("no PLACE 0", -1, x.left(0, 0, 0));
        Due.is("no own number at PLACE 0", -1, x.left(0, 0, 1));
    }

    private static void deeds() {
        start("DEEDS 0 to 7: rows of 1 to 16 LETTERS");
        x.feed(some("a", 20));
        Due.is("DEED -1", -1, x.deed(-1, 1));
        Due.is("DEED 8", -1, x.deed(8, 1));
        Due.is("0 LETTERS", -1, x.deed(0, 0));
        Due.is("17 LETTERS", -1, x.deed(0, 17));
        Due.is("DEED 0 of 16 LETTERS", 16, x.deed(0, 16));
        Due.is("DEED 7 of 1 LETTER", 1, x.deed(7, "b"));
        Due.is("told", 129, x.count(1));
        Due.is("LETTERS of DEED 0", 16, x.count(20));
        Due.is("LETTERS of DEED 7", 1, x.count(27));
        Due.is("DEED 8 has none", -1, x.count(28));
        for (int i = 1; i < 7; i++) Due.is("DEED " + i + " is not told", 0, x.count(20 + i));
        for (int i = 0; i < 8; i++) x.deed(i, some("c", i + 1));
        Due.is("all told", 255, x.count(1));
        for (int i = 0; i < 8; i++) Due.is("LETTERS of DEED " + i, i + 1, x.count(20 + i));
        x.blank("bccc");
        for (int i = 0; i < 8; i++) Due.is("WAYS of DEED " + i, i == 0 || i == 1 ? 3 : i == 2 ? 1 : 0, x.ways(0, i));
    }

    private static void clerks() {
        start("CLERKS 0 to 7");
        x.blank("abcdef");
        x.deed(0, "a");
        Due.is("no CLERK -1 MAY", -1, x.may(0, 0, -1, 0));
        Due.is("no CLERK 8 MAY", -1, x.may(0, 0, 8, 0));
        Due.is("no PRICE for CLERK -1", -1, x.may(0, 0, -1, 1));
        Due.is("no PRICE for CLERK 8", -1, x.may(0, 0, 8, 1));
        Due.is("no STROKE by CLERK -1", -1, x.strike(0, 0, 1, -1));
        Due.is("no STROKE by CLERK 8", -1, x.strike(0, 0, 1, 8));
        Due.is("no CHEAPEST for CLERK -1", -1, x.cheapest(0, 0, -1, -1));
        Due.is("no CHEAPEST for CLERK 8", -1, x.cheapest(0, 0, 8, -1));
        Due.is("not DONE by CLERK -1", -1, x.done(0, 0, -1));
        Due.is("not DONE by CLERK 8", -1, x.done(0, 0, 8));
        for (int clerk : new int[] {Integer.MIN_VALUE, -8, 9, 15, 16, Integer.MAX_VALUE}) {
            Due.is("no CLERK " + clerk + " MAY", -1, x.may(0, 0, clerk, 0));
            Due.is("no PRICE for CLERK " + clerk, -1, x.may(0, 0, clerk, 1));
            Due.is("no STROKE by CLERK " + clerk, -1, x.strike(0, 0, 1, clerk));
            Due.is("no CHEAPEST for CLERK " + clerk, -1, x.cheapest(0, 0, clerk, -1));
            Due.is("not DONE by CLERK " + clerk, -1, x.done(0, 0, clerk));
        }
        Due.is("nothing in THE BOOK", 0, x.count(5));
        for (int clerk = 0; clerk < 8; clerk += 7) {
            Due.is("MAY", 1, x.may(0, 0, clerk, 0));
            Due.is("PRICE", 1, x.may(0, 0, clerk, 1));
            Due.is("CHEAPEST", clerk == 0 ? 5 : 4, x.cheapest(0, 0, clerk, -1));
            Due.is("a STROKE", 1, x.strike(0, 1, 1, clerk));
            Due.is("the CLERK in THE BOOK", clerk, x.book(x.count(5) - 1, 1));
        }
        Due.is("DONE by CLERK 7", 1, x.done(0, 0, 7));
        Due.is("CLERK 7 in THE BOOK", 7, x.book(2, 1));
        x.back(0);
        Due.is("DONE by CLERK 0", 1, x.done(0, 0, 0));
        Due.is("CLERK 0 in THE BOOK", 0, x.book(2, 1));
    }

    private static void days() {
        start("the DAY (0 to 999; 0 at first)");
        x.blank("abcdefgh");
        Due.is("0 at first", 0, x.count(4));
        x.strike(0, 0, 1, 0);
        Due.is("a STROKE of DAY 0", 0, x.book(0, 2));
        Due.is("DAY -1", false, x.day(-1));
        Due.is("DAY 0 is not past", true, x.day(0));
        Due.is("DAY 1", true, x.day(1));
        Due.is("DAY 0 is past", false, x.day(0));
        Due.is("DAY 1 stays", 1, x.count(4));
        Due.is("DAY 1 is not past", true, x.day(1));
        Due.is("DAY 998", true, x.day(998));
        Due.is("DAY 1000", false, x.day(1000));
        Due.is("DAY 998 stays", 998, x.count(4));
        Due.is("DAY 997 is past", false, x.day(997));
        Due.is("DAY 999", true, x.day(999));
        Due.is("DAY 999 is not past", true, x.day(999));
        Due.is("DAY 1000 is none", false, x.day(1000));
        Due.is("DAY 998 is past", false, x.day(998));
        Due.is("DAY 999 stays", 999, x.count(4));
        x.strike(0, 0, 1, 0);
        Due.is("a STROKE of DAY 999", 999, x.book(1, 2));
        Due.is("the STROKE before stays one of DAY 0", 0, x.book(0, 2));
        Due.is("the least int", false, x.day(Integer.MIN_VALUE));
        Due.is("the greatest int", false, x.day(Integer.MAX_VALUE));
    }

    private static void strokes() {
        start("a CLERK strikes so many LETTERS (1 to 9) of a BLANK from a PLACE on, all of which are LEFT");
        x.blank("abcdefghijklmnopqrst");
        Due.is("0 LETTERS", -1, x.strike(0, 0, 0, 0));
        Due.is("-1 LETTER", -1, x.strike(0, 1, -1, 0));
        Due.is("10 LETTERS", -1, x.strike(0, 0, 10, 0));
        Due.is("nothing STRUCK", 20, x.count(10));
        Due.is("9 LETTERS, 8 are LEFT from there on", -1, x.strike(0, 12, 9, 0));
        Due.is("2 LETTERS at the last PLACE", -1, x.strike(0, 19, 2, 0));
        Due.is("1 LETTER behind the last PLACE", -1, x.strike(0, 20, 1, 0));
        Due.is("1 LETTER ahead of the first PLACE", -1, x.strike(0, -1, 1, 0));
        Due.is("2 LETTERS from ahead of the first PLACE", -1, x.strike(0, -1, 2, 0));
        Due.is("a PLACE near the greatest int", -1, x.strike(0, Integer.MAX_VALUE, 9, 0));
        Due.is("so many that a sum would wrap", -1, x.strike(0, 1, Integer.MAX_VALUE, 0));
        Due.is("nothing STRUCK by these", 20, x.count(10));
        Due.is("1 LETTER at the last PLACE", 1, x.strike(0, 19, 1, 0));
        Due.is("9 LETTERS to the last PLACE", 9, x.strike(0, 10, 9, 0));
        Due.is("10 are LEFT", 10, x.count(10));
        Due.is("the last of them", 9, x.left(0, 9, 1));
        Due.is("over a gap", 2, x.strike(0, 3, 2, 0));
        Due.is("over that gap", 4, x.strike(0, 1, 4, 0));
        int[] numbers = {1, 2, 5, 6};
        for (int k = 0; k < 4; k++) Due.is("own number " + k, numbers[k], x.book(3, 10 + k));
        Due.is("no fifth", -1000, x.book(3, 14));
        Due.is("all that are LEFT", 4, x.strike(0, 0, 4, 0));
        Due.is("none is LEFT", -1, x.strike(0, 0, 1, 0));
    }

    private static void mayNot() {
        start("all of which are LEFT and which it MAY; each costs its PRICE");
        x.blank("abcdefghij");
        x.law("n(l=1);n(l=5);p99(l>6);p0(l=6)");
        Due.is("the first may not", -2, x.strike(0, 1, 3, 0));
        Due.is("the last may not", -2, x.strike(0, 2, 4, 0));
        Due.is("one amid them may not", -2, x.strike(0, 3, 5, 0));
        Due.is("nothing STRUCK", 10, x.count(10));
        Due.is("nothing written", 0, x.count(5));
        Due.is("nothing paid", 0, x.count(7));
        Due.is("up to it", 3, x.strike(0, 2, 3, 0));
        Due.is("from behind it, at 0 and 99", 99, x.strike(0, 3, 2, 0));
        Due.is("at 0 and thrice 99 all together", 99 + 3, x.count(7));
        Due.is("a PRICE of 0", 0, x.back(0) == 2 ? x.strike(0, 3, 1, 0) : -9);
        x.law("p100(1=1)");
        x.blank("aaaaaaaaa");
        Due.is("nine at the highest PRICE", 891, x.strike(1, 0, 9, 0));
        Due.is("what it cost", 891, x.book(2, 3));
    }

    private static void book() {
        start("THE BOOK: of all STROKES (60 at most; then none can be made)");
        for (int b = 0; b < 3; b++) x.blank(some("ab", 20));
        x.deed(0, "ab");
        for (int k = 0; k < 59; k++) Due.is("STROKE " + k, 1, x.strike(k % 2, 0, 1, k % 8));
        Due.is("59", 59, x.count(5));
        Due.is("the 60th", 3, x.strike(2, 0, 3, 5));
        Due.is("60", 60, x.count(5));
        Due.is("a 61st by strike", -3, x.strike(2, 0, 1, 0));
        Due.is("a 61st by done", -3, x.done(2, 0, 0));
        Due.is("a 61st by draw", 0, x.draw(2, 1));
        Due.is("60 still", 60, x.count(5));
        Due.is("37 LEFT still", 37, x.count(12));
        Due.is("the last one", 3, x.book(59, 4));
        Due.is("no STROKE 60", -1000, x.book(60, 4));
        Due.is("one TAKEN BACK", 3, x.back(2));
        Due.is("59 again", 59, x.count(5));
        Due.is("no STROKE 59", -1000, x.book(59, 0));
        Due.is("one more by draw", 1, x.draw(2, 3));
        Due.is("60 again", 60, x.count(5));
        Due.is("and none more", -3, x.strike(0, 0, 1, 0));
    }

    private static void takenBack() {
        start("TAKEN BACK is the last one of a BLANK (it leaves THE BOOK; those behind it move up)");
        x.blank("abcdefghijklmnop");
        x.blank("abcdefghijklmnop");
        Due.is("no STROKE at all", -1, x.back(0));
        x.law("pl(1=1)");
        x.day(1);
        x.strike(0, 0, 2, 1);
        Due.is("no STROKE of this BLANK", -1, x.back(1));
        x.day(2);
        x.strike(0, 3, 3, 2);
        x.day(3);
        x.strike(1, 2, 9, 3);
        x.day(4);
        x.strike(1, 0, 1, 4);
        x.law("n(1=1)");
        Due.is("the last one of BLANK 0, though none MAY strike it now", 3, x.back(0));
        Due.is("three are there", 3, x.count(5));
        int[][] want = {{0, 1, 1, 0 + 1, 2, 0, 1}, {1, 3, 3, 2 + 3 + 4 + 5 + 6 + 7 + 8 + 9 + 10, 9, 2, 3}, {1, 4, 4, 0, 1, 0, -1000}};
        for (int i = 0; i < 3; i++)
            for (int what = 0; what < 7; what++) Due.is("STROKE " + i + ", " + what, want[i][what], x.book(i, what < 5 ? what : what + 5));
        for (int k = 0; k < 9; k++) Due.is("its LETTER " + k, 2 + k, x.book(1, 10 + k));
        Due.is("behind the last", -1000, x.book(3, 0));
        Due.is("all together", 1 + 54, x.count(7));
        Due.is("14 LEFT again", 14, x.count(10));
        Due.is("in their order", 5, x.left(0, 3, 1));
        Due.is("the last of the other BLANK", 1, x.back(1));
        Due.is("its first", 9, x.back(1));
        Due.is("no more of it", -1, x.back(1));
        Due.is("the only one that is there", 2, x.back(0));
        Due.is("no more", -1, x.back(0));
        Due.is("none in THE BOOK", 0, x.count(5));
        Due.is("abcdefghijklmnop again", 16, x.rest(0).equals("abcdefghijklmnop") ? 16 : 0);
        Due.is("abcdefghijklmnop again", 16, x.rest(1).equals("abcdefghijklmnop") ? 16 : 0);
    }

    private static void writtenAgain() {
        start("TAKEN BACK: it leaves THE BOOK, and nothing of it stays for the next one");
        x.blank("abcdefghij");
        x.blank("abcdefghij");
        x.law("p50(1=1)");
        x.day(5);
        x.strike(0, 1, 9, 7);
        x.strike(1, 0, 8, 6);
        x.back(0);
        x.back(1);
        x.law("p2(1=1)");
        x.day(6);
        for (int i = 0; i < 2; i++) {
            Due.is("STROKE " + i, 4, x.strike(1 - i, 3, 2, i));
            Due.is("its BLANK", 1 - i, x.book(i, 0));
            Due.is("its CLERK", i, x.book(i, 1));
            Due.is("its DAY", 6, x.book(i, 2));
            Due.is("what it cost", 4, x.book(i, 3));
            Due.is("how many", 2, x.book(i, 4));
            Due.is("its first", 3, x.book(i, 10));
            Due.is("its last", 4, x.book(i, 11));
            Due.is("none behind", -1000, x.book(i, 12));
        }
        Due.is("all together", 8, x.count(7));
        Due.is("one TAKEN BACK", 2, x.back(1));
        Due.is("what is left of THE BOOK", 4, x.count(7));
        Due.is("DAY of the other", 6, x.book(0, 2));
    }

    private static void takenBackOfMany() {
        start("TAKEN BACK out of a full BOOK");
        x.blank(some("abcd", 10));
        x.blank(some("abcd", 10));
        x.strike(0, 30, 9, 7);
        for (int k = 0; k < 39; k++) x.strike(1, 0, 1, k % 8);
        for (int k = 0; k < 20; k++) x.strike(0, 0, 1, 6);
        Due.is("full", 60, x.count(5));
        for (int k = 0; k < 20; k++) Due.is("one", 1, x.back(0));
        Due.is("forty", 40, x.count(5));
        Due.is("the first one of all", 9, x.back(0));
        for (int k = 0; k < 39; k++) {
            Due.is("the CLERK of " + k, k % 8, x.book(k, 1));
            Due.is("the LETTER of " + k, k, x.book(k, 10));
        }
        Due.is("no STROKE 39", -1000, x.book(39, 0));
        Due.is("all LEFT", 40, x.count(10));
    }

    private static void aBookFullOfNines() {
        start("own numbers of nine LETTERS up to the 60th STROKE");
        for (int b = 0; b < 8; b++) x.blank(some("a", 40));
        for (int k = 0; k < 32; k++) Due.is("nine", 9, x.strike(k % 8, 0, 9, 0));
        for (int k = 0; k < 28; k++) Due.is("one", 1, x.strike(k % 7, 0, 1, 0));
        Due.is("full", 60, x.count(5));
        Due.is("all that they cost", 32 * 9 + 28, x.count(7));
        for (int i = 0; i < 32; i++) Due.is("the last LETTER of " + i, i / 8 * 9 + 8, x.book(i, 18));
        for (int i = 32; i < 60; i++) Due.is("the LETTER of " + i, 36 + (i - 32) / 7, x.book(i, 10));
        Due.is("the only one of the last", -1000, x.book(59, 11));
    }

    private static void objectsApart() {
        start("All memory is the office's own");
        x.blank("abc");
        x.deed(0, "ac");
        x.law("n(l=0)");
        x.day(9);
        x.seed(9);
        x.strike(0, 1, 1, 0);
        x.feed("zzz");
        x.hidden(1, -1);
        Office other = new Office();
        for (int what = 0; what < 8; what++) Due.is("another's count(" + what + ")", what == 6 ? 1 : 0, other.count(what));
        other.blank("zzzz");
        other.deed(0, "zz");
        Due.is("another's WAYS", 6, other.ways(0, 0));
        Due.is("another's LAW", 1, other.may(0, 0, 0, 0));
        other.strike(0, 0, 2, 0);
        other.seed(77);
        Due.is("its BLANK", 2, x.count(10));
        Due.is("its DEED", 1, x.ways(0, 0));
        Due.is("its LAW", 0, x.may(0, 0, 0, 0));
        Due.is("its tape", 20, x.count(3));
        Due.is("its X", 9, x.count(6));
        Due.is("its DAY", 9, x.count(4));
        Due.is("its BOOK", 1, x.book(0, 10));
    }

    private static void manyCalls() {
        start("An object is used for at most 512 calls after it has been made");
        x.blank(some("ab", 20));
        x.deed(0, "aab");
        x.deed(1, "ba");
        while (x.calls() < Office.MOST_CALLS - 12) {
            x.strike(0, 0, 1, 0);
            x.shortest(3, 0);
            x.dayEnd(3, 10);
            x.back(0);
        }
        while (x.calls() < Office.MOST_CALLS - 5) Due.is("call " + (x.calls() + 1), 40, x.count(10));
        Due.is("call 508", 4, x.shortest(3, -1));
        Due.is("call 509", 1, x.hidden(3, -1));
        Due.is("call 510", 2, x.strike(0, 38, 2, 0));
        Due.is("call 511", 38, x.count(10));
        Due.is("call 512", 2, x.back(0));
        Due.is("512 calls", 512, x.calls());
    }

    public static void main(String[] args) {
        letters();
        blanks();
        places();
        deeds();
        clerks();
        days();
        strokes();
        mayNot();
        book();
        takenBack();
        writtenAgain();
        takenBackOfMany();
        aBookFullOfNines();
        objectsApart();
        manyCalls();
        Due.end();
    }
}

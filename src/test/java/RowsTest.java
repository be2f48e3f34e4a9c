/** The boundary cases that the sentences of "==== 2." name, in the document's order. */
public final class RowsTest {
    private static Office x = new Office();

    private static void start(String sentence) {
        Due.sentence(sentence);
        x = new Office();
    }

    private static String some(String part, int times) { return part.repeat(times); }

    private static void row(String what, String want, String got) {
        Due.is(what + " " + got + ", due is " + want, true, want.equals(got));
    }

    private static void comes() {
        start("A DEED COMES from a row if it is left when some LETTERS of this are struck (none, too)");
        x.blank("abcabc");
        x.deed(0, "abcabc");
        x.deed(1, "abcabca");
        x.deed(2, "cba");
        x.deed(3, "c");
        x.deed(4, "cabb");
        Due.is("none is struck, WAYS", 1, x.ways(0, 0));
        Due.is("none is struck, PRICE", 0, x.cheapest(0, 0, 0, -1));
        Due.is("none is struck, the first stays", 0, x.cheapest(0, 0, 0, 0));
        Due.is("none is struck, the last stays", 5, x.cheapest(0, 0, 0, 5));
        Due.is("none is struck, STROKES", 0, x.strokes(0, 0, 1));
        Due.is("none is struck, EVEN", 1, x.even(0, 0, 9));
        Due.is("none is struck, not FORGED", 0, x.forged(0));
        Due.is("none is struck, DONE", 0, x.done(0, 0, 0));
        Due.is("none is struck, SPARE", 0, x.spare(0, 1));
        Due.is("none is struck, lost", 0, x.dayEnd(1, 10));
        Due.is("none is struck, FAMILY", 0, x.family(0, 1, 1, -1));
        Due.is("none is struck, CHAIN", 2, x.chain(0, -1));
        x.law("n(1=1)");
        Due.is("none is struck, though none MAY be", 0, x.cheapest(0, 0, 0, -1));
        Due.is("none is struck, DONE though none MAY be", 0, x.done(0, 0, 0));
        Due.is("one LETTER longer", 0, x.ways(0, 1));
        Due.is("one LETTER longer is FORGED", 1, x.forged(1));
        Due.is("in another order", 0, x.ways(0, 2));
        Due.is("all but one struck", 2, x.ways(0, 3));
        Due.is("too many of a LETTER", 0, x.ways(0, 4));
        x.strike(0, 0, 6, 0);
        Due.is("none MAY be struck", 6, x.count(10));
        x.law("n(1=2)");
        x.strike(0, 0, 6, 0);
        for (int i = 0; i < 4; i++) Due.is("from a row of none, WAYS", 0, x.ways(0, i));
        Due.is("from a row of none, CHEAPEST", -2, x.cheapest(0, 3, 0, -1));
        Due.is("from a row of none, DONE", -2, x.done(0, 3, 0));
        Due.is("from a row of none, STROKES", -2, x.strokes(0, 3, 9));
        Due.is("from a row of none, EVEN", 0, x.even(0, 3, 1));
        Due.is("from a row of none, SPARE", -2, x.spare(0, 8));
        Due.is("from a row of none, CHAIN", 0, x.chain(0, -1));
        Due.is("from a row of none, THE DAY'S END", 0, x.dayEnd(8, -1));
    }

    private static void ways() {
        start("WAYS: how many CHOICES there are");
        x.blank(some("a", 40));
        x.deed(0, some("a", 16));
        x.deed(1, "a");
        x.deed(2, "aa");
        Due.is("40 over 16", 62852101650L, x.ways(0, 0));
        Due.is("40 over 1", 40, x.ways(0, 1));
        Due.is("40 over 2", 780, x.ways(0, 2));
        x.blank(some("a", 16));
        Due.is("16 over 16", 1, x.ways(1, 0));
        x.blank(some("a", 17));
        Due.is("17 over 16", 17, x.ways(2, 0));
        x.blank(some("a", 15));
        Due.is("15 over 16", 0, x.ways(3, 0));
        x.blank("a");
        Due.is("1 over 1", 1, x.ways(4, 1));
        Due.is("1 over 2", 0, x.ways(4, 2));
        x.blank(some("ab", 20));
        x.deed(3, some("ab", 8));
        Due.is("a and b by turns", 30421755, x.ways(5, 3));
        x.law("n(1=1)");
        Due.is("(THE LAW is not asked), WAYS", 780, x.ways(0, 2));
        Due.is("(THE LAW is not asked), STROKES", 5, x.strokes(0, 2, 9));
        Due.is("(THE LAW is not asked), EVEN", 39, x.even(0, 2, 1) / 20);
        Due.is("(THE LAW is not asked), SPARE", 1, x.spare(4, 0));
    }

    private static void cheapest() {
        start("CHEAPEST: by which all LETTERS that go MAY be struck, at least PRICE together");
        x.blank("abab");
        x.deed(0, "ab");
        x.law("n(w=0);n(w=1)");
        Due.is("what stays need not be free", 2, x.cheapest(0, 0, 0, -1));
        Due.is("a stays", 0, x.cheapest(0, 0, 0, 0));
        Due.is("b stays", 1, x.cheapest(0, 0, 0, 1));
        x.law("n(w=0);n(w=1);n(w=2)");
        Due.is("one that must go may not", -2, x.cheapest(0, 0, 0, -1));
        x.law("n(w=0);n(w=3)");
        Due.is("the outer ones must stay", 2, x.cheapest(0, 0, 0, -1));
        Due.is("b 3 stays", 3, x.cheapest(0, 0, 0, 1));
        x.law("p9(w=0);p9(w=1)");
        Due.is("the dear ones stay", 2, x.cheapest(0, 0, 0, -1));
        x.law("p9(w=2);p9(w=3)");
        Due.is("the dear ones stay, the last", 2, x.cheapest(0, 0, 0, -1));
        Due.is("a 2 stays", 2, x.cheapest(0, 0, 0, 0));
        x.law("p2(w=0);n(w=2)");
        Due.is("a ban is more than a PRICE", -2, x.cheapest(0, 0, 0, -1) == 3 ? -2 : 0);
        Due.is("no PLACE 2 of the DEED", -1, x.cheapest(0, 0, 0, 2));
        Due.is("no what -2", -1, x.cheapest(0, 0, 0, -2));
        Due.sentence("CHEAPEST: for a BLANK (as it is LEFT)");
        x.law("pw(1=1)");
        x.strike(0, 0, 1, 0);
        Due.is("of bab", 3 - 2, x.cheapest(0, 0, 0, -1));
        Due.is("PLACES of what is LEFT", 1, x.cheapest(0, 0, 0, 0));
        Due.is("PLACES of what is LEFT", 2, x.cheapest(0, 0, 0, 1));
        Due.sentence("CHEAPEST: of like ones the least row of PLACES that stay");
        x.blank("aabbaabb");
        x.law("p0(1=1)");
        Due.is("at 0", 0, x.cheapest(1, 0, 0, -1));
        Due.is("the first a", 0, x.cheapest(1, 0, 0, 0));
        Due.is("the first b", 2, x.cheapest(1, 0, 0, 1));
        x.law("p5(w=1);p5(w=4);p5(w=3);p5(w=6)");
        Due.is("a 1 or a 4, b 3 or b 6", 14, x.cheapest(1, 0, 0, -1));
        Due.is("a 1", 1, x.cheapest(1, 0, 0, 0));
        Due.is("b 3", 3, x.cheapest(1, 0, 0, 1));
        x.law("p5(w=0);p5(w=6);p4(w=2)");
        Due.is("a 0 and b 6", 9, x.cheapest(1, 0, 0, -1));
        Due.is("a 0", 0, x.cheapest(1, 0, 0, 0));
        Due.is("b 6", 6, x.cheapest(1, 0, 0, 1));
        Due.sentence("CHEAPEST: of 39 LETTERS at 99");
        x.blank(some("a", 40));
        x.deed(1, "a");
        x.law("p99(1=1)");
        Due.is("3861", 3861, x.cheapest(2, 1, 0, -1));
        Due.is("the first stays", 0, x.cheapest(2, 1, 0, 0));
        x.law("n(w<39);p99(1=1)");
        Due.is("39 may not go", -2, x.cheapest(2, 1, 0, -1));
        x.law("n(w=39);p99(1=1)");
        Due.is("only the last may not", 3861, x.cheapest(2, 1, 0, -1));
        Due.is("the last stays", 39, x.cheapest(2, 1, 0, 0));
    }

    private static void longestCheapest() {
        start("CHEAPEST: a DEED of 16 LETTERS of a BLANK of 40");
        x.blank(some("ab", 20));
        x.deed(0, some("ab", 8));
        x.law("p5(w%5=0)");
        // eight LETTERS at 5 and 32 at 1, of which 16 stay, as many of those at 5 as can
        int price = x.cheapest(0, 0, 0, -1);
        Due.is("PRICE", 24, price);
        int last = -1;
        int stay = 0;
        for (int k = 0; k < 16; k++) {
            int place = x.cheapest(0, 0, 0, k);
            Due.is("ascending at " + k, true, place > last);
            Due.is("LETTER " + k, k % 2, x.left(0, place, 0));
            last = place;
            stay += place % 5 == 0 ? 5 : 1;
        }
        Due.is("what stays and what goes", 8 * 5 + 32, price + stay);
        x.law("p1(1=1)");
        for (int k = 0; k < 16; k++) Due.is("of like ones the least, " + k, k, x.cheapest(0, 0, 0, k));
        Due.is("no LETTER 16", -1, x.cheapest(0, 0, 0, 16));
        x.law("n(w<24)");
        Due.is("the first 24 may not go", -2, x.cheapest(0, 0, 0, -1));
        x.law("n(w>23)");
        Due.is("the last 16 may not go", 24, x.cheapest(0, 0, 0, -1));
        for (int k = 0; k < 16; k++) Due.is("they stay, " + k, 24 + k, x.cheapest(0, 0, 0, k));
        Due.is("DONE", 3, x.done(0, 0, 0));
        row("LEFT is", some("ab", 8), x.rest(0));
        x.blank(some("a", 16));
        x.deed(1, some("a", 16));
        Due.is("16 of 16", 0, x.cheapest(1, 1, 0, -1));
        for (int k = 0; k < 16; k++) Due.is("16 of 16, " + k, k, x.cheapest(1, 1, 0, k));
        x.blank(some("a", 15));
        Due.is("16 of 15", -2, x.cheapest(2, 1, 0, -1));
        x.blank(some("a", 17));
        x.law("p9(w=0);p8(w=16)");
        Due.is("16 of 17", 1, x.cheapest(3, 1, 0, -1));
        Due.is("the second but one of the last goes", 16, x.cheapest(3, 1, 0, 15));
        Due.is("the one ahead of it stays", 14, x.cheapest(3, 1, 0, 14));
    }

    private static void askedNow() {
        start("CHEAPEST: (all asked as it is now)");
        x.blank("aaab");
        x.deed(0, "b");
        x.law("pm(1=1);n(o<3&l=0)");
        Due.is("m and o stay what they are", 12, x.cheapest(0, 0, 0, -1));
        x.law("pi+10*f(1=1)");
        Due.is("i and f stay what they are", 10 + 1 + 2, x.cheapest(0, 0, 0, -1));
        Due.is("DONE", 1, x.done(0, 0, 0));
        Due.is("costing what was asked", 13, x.book(0, 3));
    }

    /** A gap of so many LETTERS behind a LETTER that stays. */
    private static void gap(int size, int... strokes) {
        x = new Office();
        x.blank("a" + some("b", size));
        x.deed(0, "a");
        Due.is("a gap of " + size, strokes.length, x.done(0, 0, 1));
        int end = size + 1;
        for (int k = 0; k < strokes.length; k++) {
            Due.is("gap " + size + ", size of STROKE " + k, strokes[k], x.book(k, 4));
            Due.is("gap " + size + ", first of STROKE " + k, end - strokes[k], x.book(k, 10));
            Due.is("gap " + size + ", last of STROKE " + k, end - 1, x.book(k, 9 + strokes[k]));
            Due.is("gap " + size + ", cost of STROKE " + k, strokes[k], x.book(k, 3));
            end -= strokes[k];
        }
        Due.is("one is LEFT", 1, x.count(10));
    }

    private static void done() {
        start("DONE: as STROKES of 9 LETTERS at most (each gap from its end: 9, 9, .. the rest at last)");
        gap(0);
        gap(1, 1);
        gap(8, 8);
        gap(9, 9);
        gap(10, 9, 1);
        gap(18, 9, 9);
        gap(19, 9, 9, 1);
        gap(26, 9, 9, 8);
        gap(27, 9, 9, 9);
        gap(36, 9, 9, 9, 9);
        gap(39, 9, 9, 9, 9, 3);
        start("DONE: from the last one on back");
        x.blank("xaxxbxxxc" + some("x", 11));
        x.deed(0, "abc");
        x.day(8);
        x.law("pi+m(1=1);n(k=3)");
        Due.is("a CLERK who may not", -2, x.done(0, 0, 3));
        Due.is("five STROKES", 5, x.done(0, 0, 2));
        int[] sizes = {9, 2, 3, 2, 1};
        int[] firsts = {11, 9, 5, 2, 0};
        for (int k = 0; k < 5; k++) {
            int cost = 0;
            for (int n = 0; n < sizes[k]; n++) {
                Due.is("STROKE " + k + ", LETTER " + n, firsts[k] + n, x.book(k, 10 + n));
                cost += firsts[k] + n + 20;
            }
            Due.is("STROKE " + k + ", size", sizes[k], x.book(k, 4));
            Due.is("STROKE " + k + " costs what was asked", cost, x.book(k, 3));
            Due.is("STROKE " + k + ", CLERK", 2, x.book(k, 1));
            Due.is("STROKE " + k + ", DAY", 8, x.book(k, 2));
            Due.is("STROKE " + k + ", BLANK", 0, x.book(k, 0));
        }
        row("LEFT is", "abc", x.rest(0));
        Due.is("the first gap is TAKEN BACK first", 1, x.back(0));
        row("LEFT is", "xabc", x.rest(0));
    }

    private static void doneAllOrNone() {
        start("DONE: all of them, or none");
        x.blank(some("a", 40));
        x.blank("abcbdb");
        x.deed(0, "bbb");
        for (int k = 0; k < 29; k++) x.strike(0, 0, 1, 0);
        x.blank(some("c", 29));
        for (int k = 0; k < 29; k++) x.strike(2, 0, 1, 0);
        Due.is("58 STROKES", 58, x.count(5));
        Due.is("room for two, three are needed", -3, x.done(1, 0, 0));
        Due.is("none is struck", 6, x.count(11));
        Due.is("none is written", 58, x.count(5));
        x.strike(0, 0, 1, 0);
        Due.is("room for one", -3, x.done(1, 0, 0));
        x.strike(0, 0, 1, 0);
        Due.is("room for none", -3, x.done(1, 0, 0));
        Due.is("-2 though THE BOOK is full", -2, x.done(0, 0, 0));
        Due.is("none is struck", 6, x.count(11));
        for (int k = 0; k < 3; k++) x.back(0);
        Due.is("57 STROKES", 57, x.count(5));
        Due.is("room for three", 3, x.done(1, 0, 0));
        Due.is("60 STROKES", 60, x.count(5));
        row("LEFT is", "bbb", x.rest(1));
        Due.is("nothing to strike, in a full BOOK", 0, x.done(1, 0, 0));
    }

    private static void strokes() {
        start("STROKES of a width: 1 to W (1 to 9) LETTERS");
        x.blank("a" + some("x", 18) + "b");
        x.deed(0, "ab");
        Due.is("W 0", -1, x.strokes(0, 0, 0));
        Due.is("W -1", -1, x.strokes(0, 0, -1));
        Due.is("W 10", -1, x.strokes(0, 0, 10));
        int[] want = {18, 9, 6, 5, 4, 3, 3, 3, 2};
        for (int w = 1; w <= 9; w++) Due.is("18 by " + w, want[w - 1], x.strokes(0, 0, w));
        x.blank("a" + some("x", 19) + "b");
        int[] more = {19, 10, 7, 5, 4, 4, 3, 3, 3};
        for (int w = 1; w <= 9; w++) Due.is("19 by " + w, more[w - 1], x.strokes(1, 0, w));
        x.blank(some("a", 40));
        x.deed(1, "a");
        int[] forty = {39, 20, 13, 10, 8, 7, 6, 5, 5};
        for (int w = 1; w <= 9; w++) Due.is("39 by " + w, forty[w - 1], x.strokes(2, 1, w));
        Due.is("it does not COME", -2, x.strokes(2, 0, 9));
        Due.sentence("STROKES: the fewest by which a DEED can be left over of a row");
        x.blank("abxabxab");
        Due.is("by the CHOICE in the front", 2, x.strokes(3, 0, 3));
        Due.is("by the CHOICE with one gap", 1, x.strokes(3, 0, 6));
        x.deed(2, "abab");
        Due.is("all amid them, by twos", 2, x.strokes(3, 2, 2));
        Due.is("all amid them at once", 1, x.strokes(3, 2, 9));
        x.blank("xaxbx");
        Due.is("ahead, amid and behind", 3, x.strokes(4, 0, 9));
        x.strike(4, 0, 1, 0);
        Due.is("as LEFT", 2, x.strokes(4, 0, 9));
        x.strike(4, 3, 1, 0);
        Due.is("as LEFT", 1, x.strokes(4, 0, 9));
    }

    private static void even() {
        start("EVEN: each of just W LETTERS: in how many CHOICES it can be so");
        x.blank(some("a", 10));
        x.deed(0, "a");
        x.deed(1, some("a", 10));
        x.deed(2, "b");
        Due.is("W 0", -1, x.even(0, 0, 0));
        Due.is("W -1", -1, x.even(0, 0, -1));
        Due.is("W 10", -1, x.even(0, 0, 10));
        int[] want = {10, 0, 4, 0, 0, 0, 0, 0, 2};
        for (int w = 1; w <= 9; w++) Due.is("9 by " + w, want[w - 1], x.even(0, 0, w));
        for (int w = 1; w <= 9; w++) Due.is("nothing goes, by " + w, 1, x.even(0, 1, w));
        for (int w = 1; w <= 9; w++) Due.is("it does not COME, by " + w, 0, x.even(0, 2, w));
        x.blank(some("a", 37));
        Due.is("36 by 9", 5, x.even(1, 0, 9));
        Due.is("36 by 8", 0, x.even(1, 0, 8));
        Due.is("36 by 6", 7, x.even(1, 0, 6));
        Due.is("36 by 2", 19, x.even(1, 0, 2));
        x.strike(1, 0, 1, 0);
        Due.is("35 by 7, as LEFT", 6, x.even(1, 0, 7));
        x.blank(some("a", 40));
        x.deed(3, some("a", 16));
        Due.is("24 by 1, beyond 32 bits", 62852101650L, x.even(2, 3, 1));
        Due.is("24 by 8", 969, x.even(2, 3, 8));
        Due.is("24 by 9", 0, x.even(2, 3, 9));
        x.blank("abxxab");
        x.deed(4, "ab");
        Due.is("in front, around and at the end", 3, x.even(3, 4, 4));
        Due.is("by 2", 3, x.even(3, 4, 2));
    }

    private static void hidden() {
        start("HIDDEN in 2 or 3 DEEDS: the longest row that COMES from each");
        x.deed(0, "abc");
        x.deed(1, "abc");
        x.deed(2, "xaybzc");
        x.deed(3, "c");
        x.deed(4, "q");
        Due.is("in none", -1, x.hidden(0, -1));
        Due.is("in one", -1, x.hidden(1, -1));
        Due.is("in two", 3, x.hidden(3, -1));
        Due.is("in three", 3, x.hidden(7, -1));
        Due.is("in four", -1, x.hidden(15, -1));
        Due.is("in two alike", 3, x.hidden(3, -1));
        row("HIDDEN is", "abc", x.hiddenRow(7));
        row("HIDDEN is", "c", x.hiddenRow(9));
        row("HIDDEN is", "c", x.hiddenRow(13));
        Due.is("a row of none", 0, x.hidden(17, -1));
        Due.is("a row of none has no place", -1, x.hidden(17, 0));
        Due.is("a row of none in three", 0, x.hidden(19, -1));
        Due.is("behind the last place", -1, x.hidden(7, 3));
        Due.is("the last place", 2, x.hidden(7, 2));
        Due.is("below NONE", -1, x.hidden(7, -2));
        Due.sentence("HIDDEN: of like ones the first by the alphabet");
        x.deed(0, "ba");
        x.deed(1, "ab");
        row("HIDDEN is", "a", x.hiddenRow(3));
        x.deed(0, "zyab");
        x.deed(1, "abzy");
        row("HIDDEN is", "ab", x.hiddenRow(3));
        x.deed(2, "zyxab");
        row("HIDDEN is", "ab", x.hiddenRow(7));
        x.deed(0, "cdab");
        x.deed(1, "cadb");
        row("HIDDEN is", "cab", x.hiddenRow(3));
        x.deed(0, "bazc");
        x.deed(1, "zbca");
        row("HIDDEN is", "ba", x.hiddenRow(3));
        Due.sentence("HIDDEN: the longest row that COMES from each");
        String[][] threes = {{"abc", "abc", "cba", "a"}, {"bc", "bcb", "bcb", "bc"}, {"abab", "baba", "bbaa", "aa"}, {"abcd", "acbd", "adbc", "ab"},
            {"aab", "aba", "baa", "aa"}, {"xyzxyz", "zyxzyx", "xxyyzz", "xx"}, {"ab", "ab", "ba", "a"}, {"zab", "abz", "zzab", "ab"}};
        for (String[] three : threes) {
            for (int turn = 0; turn < 3; turn++) {
                for (int i = 0; i < 3; i++) x.deed(i, three[(i + turn) % 3]);
                row("HIDDEN of " + three[turn] + " and two more", three[3], x.hiddenRow(7));
            }
        }
        x.deed(0, "bc");
        x.deed(1, "bcb");
        row("HIDDEN is", "bc", x.hiddenRow(3));
        x.deed(0, "bcb");
        x.deed(1, "bc");
        row("HIDDEN is", "bc", x.hiddenRow(3));
        Due.sentence("HIDDEN: rows of 16");
        x.deed(5, "abcdefghijklmnop");
        x.deed(6, "abcdefghijklmnop");
        x.deed(7, "abcdefghijklmnop");
        Due.is("sixteen", 16, x.hidden(224, -1));
        Due.is("place 15", 15, x.hidden(224, 15));
        Due.is("place 16", -1, x.hidden(224, 16));
        Due.is("place 0", 0, x.hidden(224, 0));
        x.deed(7, "bcdefghijklmnopa");
        Due.is("fifteen", 15, x.hidden(224, -1));
        Due.is("from b on", 1, x.hidden(224, 0));
        x.deed(7, "ponmlkjihgfedcba");
        row("HIDDEN is", "a", x.hiddenRow(160));
        Due.is("of three DEEDS with all apart", 0, x.deed(7, "z") == 1 ? x.hidden(224, -1) : -9);
    }

    private static void shortest() {
        start("THE SHORTEST that 2 to 4 DEEDS (12 LETTERS each at most) all COME from");
        x.deed(0, "ab");
        x.deed(1, "ba");
        x.deed(2, "c");
        x.deed(3, "bc");
        x.deed(4, "ab");
        Due.is("of none", -1, x.shortest(0, -1));
        Due.is("of one", -1, x.shortest(1, -1));
        row("of two", "aba", x.shortestRow(3));
        row("of three", "abac", x.shortestRow(7));
        row("of four", "abac", x.shortestRow(15));
        Due.is("of five", -1, x.shortest(31, -1));
        row("of two alike", "ab", x.shortestRow(17));
        Due.is("of two alike, how many", 1, x.shortestMany(17));
        row("of one that COMES from the other", "bc", x.shortestRow(12));
        Due.is("aba, bab", 2, x.shortestMany(3));
        Due.is("abac, abca, acba, caba and with bab", 8, x.shortestMany(7));
        Due.is("behind the last place", -1, x.shortest(3, 3));
        Due.is("below NONE", -1, x.shortest(3, -2));
        Due.sentence("THE SHORTEST: 12 LETTERS each at most");
        x.deed(5, some("a", 12));
        x.deed(6, some("a", 13));
        Due.is("12 LETTERS", 13, x.shortest(33, -1));
        Due.is("13 LETTERS", -2, x.shortest(65, -1));
        Due.is("13 LETTERS, how many", -2, x.shortestMany(65));
        Due.is("13 LETTERS, BOUND", -2, x.bound(65));
        Due.is("13 LETTERS, HIDDEN", 12, x.hidden(96, -1));
        x.deed(7, some("b", 16));
        Due.is("16 LETTERS", -2, x.shortest(129, -1));
        Due.is("13 and 16 LETTERS", -2, x.shortest(192, -1));
        Due.is("five of them and 13 LETTERS", -1, x.shortest(79, -1));
        Due.is("one of 13 LETTERS", -1, x.shortest(64, -1));
        Due.sentence("THE SHORTEST: of like ones the first");
        x.deed(0, "zb");
        x.deed(1, "az");
        row("of zb and az", "azb", x.shortestRow(3));
        x.deed(1, "za");
        row("of zb and za", "zab", x.shortestRow(3));
        Due.is("zab, zba", 2, x.shortestMany(3));
        x.deed(0, "cab");
        x.deed(1, "abc");
        row("of cab and abc", "abcab", x.deed(2, "bca") == 3 ? x.shortestRow(7) : "");
    }

    private static void howMany() {
        start("THE SHORTEST: of like ones the first; how many such there are");
        String[][] rows = {{"ab", "b", "ab", "1"}, {"b", "ab", "ab", "1"}, {"ba", "a", "ba", "1"}, {"a", "ba", "ba", "1"}, {"ab", "aab", "aab", "1"},
            {"aab", "ab", "aab", "1"}, {"abb", "ab", "abb", "1"}, {"ab", "cb", "acb", "2"}, {"ba", "bc", "bac", "2"}, {"abc", "cba", "abcba", "6"},
            {"aa", "bb", "aabb", "6"}, {"ab", "cd", "abcd", "6"}, {"zza", "az", "azza", "3"}, {"q", "q", "q", "1"}, {"q", "r", "qr", "2"}};
        for (String[] two : rows) {
            x.deed(0, two[0]);
            x.deed(1, two[1]);
            row("THE SHORTEST of " + two[0] + " and " + two[1], two[2], x.shortestRow(3));
            Due.is("how many of " + two[0] + " and " + two[1], Long.parseLong(two[3]), x.shortestMany(3));
        }
        x.deed(0, "ab");
        x.deed(1, "aab");
        x.deed(2, "abb");
        x.deed(3, "b");
        row("of four", "aabb", x.shortestRow(15));
        Due.is("of four, how many: aabb, abab", 2, x.shortestMany(15));
        x.deed(0, "a");
        x.deed(1, "b");
        x.deed(2, "c");
        x.deed(3, "d");
        row("of four apart", "abcd", x.shortestRow(15));
        Due.is("of four apart, how many", 24, x.shortestMany(15));
        x.deed(3, "a");
        Due.is("of three apart, one twice", 6, x.shortestMany(15));
    }

    private static void longestShortest() {
        start("THE SHORTEST of four times 12 LETTERS (0 to 47)");
        x.deed(0, some("d", 12));
        x.deed(1, some("c", 12));
        x.deed(2, some("b", 12));
        x.deed(3, some("a", 12));
        Due.is("48", 48, x.shortest(15, -1));
        row("it is", some("a", 12) + some("b", 12) + some("c", 12) + some("d", 12), x.shortestRow(15));
        Due.is("place 47", 3, x.shortest(15, 47));
        Due.is("place 48", -1, x.shortest(15, 48));
        Due.is("36 by twelves", 3384731762521200L, x.shortestMany(7));
        Due.is("BOUND", 24, x.bound(15));
        x.deed(0, some("a", 12));
        x.deed(1, some("a", 12));
        x.deed(2, some("a", 12));
        Due.is("four alike", 12, x.shortest(15, -1));
        Due.is("four alike, how many", 1, x.shortestMany(15));
        Due.is("four alike, BOUND", 12, x.bound(15));
    }

    private static void bound() {
        start("BOUND: the greatest of SHORTEST lengths of any two of these DEEDS");
        x.deed(0, "ab");
        x.deed(1, "abc");
        x.deed(2, "d");
        x.deed(3, "cba");
        Due.is("of two", 3, x.bound(3));
        Due.is("of the last two", 4, x.bound(12));
        Due.is("of three, the last pair", 4, x.bound(7));
        Due.is("of four, the second and the last", 5, x.bound(15));
        Due.is("THE SHORTEST is longer", 6, x.shortest(15, -1));
        Due.is("of one", -1, x.bound(1));
        Due.is("of none", -1, x.bound(0));
        x.deed(4, "a");
        Due.is("of five", -1, x.bound(31));
        Due.is("not told", -1, x.bound(33));
        x.deed(0, "cccc");
        Due.is("the first and the second", 6, x.bound(15));
    }

    private static void forged() {
        start("FORGED is a DEED that COMES from no BLANK as written");
        x.deed(0, "ab");
        Due.is("no BLANK", 1, x.forged(0));
        for (int b = 0; b < 7; b++) x.blank("ba");
        Due.is("from none of seven", 1, x.forged(0));
        x.blank("ab");
        Due.is("from the eighth", 0, x.forged(0));
        x.strike(7, 0, 1, 0);
        Due.is("as written", 0, x.forged(0));
        x.deed(0, "abb");
        Due.is("one LETTER more", 1, x.forged(0));
        x.deed(0, "ba");
        Due.is("from the first", 0, x.forged(0));
    }

    private static void spare() {
        start("SPARE: LETTERS' own numbers in a BLANK (LEFT ones)");
        x.blank(some("a", 40));
        x.deed(0, "a");
        x.deed(1, some("a", 16));
        Due.is("number 39 too", (1L << 40) - 1, x.spare(0, 1));
        x.strike(0, 0, 9, 0);
        Due.is("STRUCK ones are not", (1L << 40) - (1L << 9), x.spare(0, 3));
        for (int k = 0; k < 14; k++) x.strike(0, 0, 1, 0);
        Due.is("17 are LEFT, without any one alone", (1L << 40) - (1L << 23), x.spare(0, 2));
        x.strike(0, 0, 1, 0);
        Due.is("16 are LEFT", 0, x.spare(0, 2));
        Due.is("16 are LEFT, one is needed", (1L << 40) - (1L << 24), x.spare(0, 1));
        Due.is("both", 0, x.spare(0, 3));
        x.strike(0, 0, 1, 0);
        Due.is("15 are LEFT", -2, x.spare(0, 2));
        Due.is("one of them does not COME", -2, x.spare(0, 3));
        x.blank("xabay");
        x.deed(2, "aba");
        x.deed(3, "xa");
        Due.is("of aba", 17, x.spare(1, 4));
        Due.is("of aba and xa", 16, x.spare(1, 12));
        Due.is("of xa", 30, x.spare(1, 8));
        Due.is("of no DEED", 31, x.spare(1, 0));
    }

    public static void main(String[] args) {
        comes();
        ways();
        cheapest();
        longestCheapest();
        askedNow();
        done();
        doneAllOrNone();
        strokes();
        even();
        hidden();
        shortest();
        howMany();
        longestShortest();
        bound();
        forged();
        spare();
        Due.end();
    }
}

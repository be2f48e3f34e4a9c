/** One method for each promise: ordinary inputs, the edges that the document names, and wrong inputs. */
public final class PromiseTest {
    private static Office x = new Office();

    private static void due(String call, long want, long got) { Due.is(call, want, got); }

    private static void due(String call, boolean want, boolean got) { Due.is(call, want, got); }

    private static void start(int promise) {
        Due.sentence("promise " + promise);
        x = new Office();
    }

    private static void feed(String text) { x.feed(text); }

    private static int blank(String text) { return x.blank(text); }

    private static int deed(int i, String text) { return x.deed(i, text); }

    private static int law(String text) { return x.law(text); }

    private static String some(String part, int times) { return part.repeat(times); }

    private static final int[] WILD = {Integer.MIN_VALUE, -1000, -3, -2, 60, 100, 256, 1000, 65536, Integer.MAX_VALUE};

    private static void aNewObject() {
        start(1);
        due("NONE", -1, StrikeOut.NONE);
        for (int what = 0; what < 8; what++) due("count(" + what + ")", what == 6 ? 1 : 0, x.count(what));
        for (int b = 0; b < 8; b++) due("count(10 + " + b + ")", -1, x.count(10 + b));
        for (int i = 0; i < 8; i++) due("count(20 + " + i + ")", 0, x.count(20 + i));
        due("book(0, 0)", -1000, x.book(0, 0));
        blank("ab");
        due("may without a law", 1, x.may(0, 0, 0, 0));
        due("price without a law", 1, x.may(0, 1, 7, 1));
    }

    private static void day() {
        start(2);
        due("day(-1)", false, x.day(-1));
        due("day(0)", true, x.day(0));
        due("day(7)", true, x.day(7));
        due("day(7) again", true, x.day(7));
        due("day(6)", false, x.day(6));
        due("count(4)", 7, x.count(4));
        due("day(1000)", false, x.day(1000));
        due("day(MAX)", false, x.day(Integer.MAX_VALUE));
        due("day(999)", true, x.day(999));
        due("day(998)", false, x.day(998));
        due("count(4)", 999, x.count(4));
    }

    private static void feed() {
        start(3);
        for (int k = 1; k <= 10; k++) due("feed " + k, 20 * k, x.feed(0, 1, 2, 3, 4));
        due("feed beyond 200", -1, x.feed(0, 0, 0, 0, 0));
        due("count(3)", 200, x.count(3));
        start(3);
        x.feed(0x61626364, 0x65666768, 0x696a6b6c, 0x6d6e6f70, 0x71727374);
        x.feed(0x75767778, 0x797a6162, 0x80ff61ff, -1, 0);
        due("blank of both feeds", 0, x.blank(28));
        for (int k = 0; k < 26; k++) due("byte " + k, k, x.left(0, k, 0));
        due("byte 26", 0, x.left(0, 26, 0));
        due("byte 27", 1, x.left(0, 27, 0));
        x.feed(0x61ff6161, 0, 0, 0, 0);
        due("a byte above 127", -2, x.blank(2));
    }

    private static void blank() {
        start(4);
        due("no tape", -1, x.blank(1));
        feed("abcdefghijklmnopqrstuvwxyz");
        due("blank(0)", -1, x.blank(0));
        due("blank(-1)", -1, x.blank(-1));
        due("blank(41)", -1, x.blank(41));
        due("the tape stays", 40, x.count(3));
        due("more than are a LETTER", -2, x.blank(27));
        due("the tape is empty", 0, x.count(3));
        feed("zyx");
        due("blank(21)", -1, x.blank(21));
        due("blank(3)", 0, x.blank(3));
        due("the tape is empty, behind it too", 0, x.count(3));
        due("LEFT", 3, x.count(10));
        due("{", -2, blank("{"));
        due("`", -2, blank("`"));
        due("A", -2, blank("A"));
        due("still one", 1, x.count(0));
        due("one LETTER", 1, blank("q"));
        due("forty", 2, blank(some("z", 40)));
        due("forty LEFT", 40, x.count(12));
        for (int b = 3; b < 8; b++) due("blank " + b, b, blank("ab"));
        due("a ninth", -1, blank("ab"));
        due("the tape stays", 20, x.count(3));
        due("eight", 8, x.count(0));
    }

    private static void deed() {
        start(5);
        feed("abcdefghijklmnopqrst");
        due("deed(-1, 1)", -1, x.deed(-1, 1));
        due("deed(8, 1)", -1, x.deed(8, 1));
        due("deed(0, 0)", -1, x.deed(0, 0));
        due("deed(0, 17)", -1, x.deed(0, 17));
        due("the tape stays", 20, x.count(3));
        due("deed(7, 16)", 16, x.deed(7, 16));
        due("the tape is empty", 0, x.count(3));
        due("it has not so many", -1, x.deed(0, 1));
        due("told", 128, x.count(1));
        due("ab", 2, deed(7, "ab"));
        due("in place of the one before", 2, x.count(27));
        due("no LETTER", -2, deed(7, "a{b"));
        due("the tape is empty", 0, x.count(3));
        due("the one before stays", 2, x.count(27));
        blank("ab");
        due("it is ab", 1, x.ways(0, 7));
        deed(7, "b");
        due("it is b", 1, x.ways(0, 7));
        deed(0, "z");
        due("told", 129, x.count(1));
    }

    private static void law() {
        start(6);
        due("no tape", -1, x.law(1));
        due("n(l=0)", 1, law("n(l=0)"));
        feed("n(l=0)");
        due("law(0)", -1, x.law(0));
        due("law(21)", -1, x.law(21));
        due("law(161)", -1, x.law(161));
        due("the tape stays", 20, x.count(3));
        due("law(5)", -1005, x.law(5));
        due("the tape is empty", 0, x.count(3));
        due("the TEXT before stays", 1, x.count(2));
        due("a blank", -1001, law("n (l=0)"));
        due("a price", 2, law("p5(l=0);p[1+2]*3-4/2%5(l<1|i>2&!w=3)"));
        due("a FAULT behind fine CLAUSES", -1012, law("n(l=0);n(l=1"));
        due("two stay", 2, x.count(2));
        due("end behind ;", -1007, law("n(l=0);"));
        due("two ;", -1007, law("n(l=0);;n(l=0)"));
        due("no comparison", -1003, law("n(l)"));
        due("two comparisons", -1005, law("n(l=0=0)"));
        due("an empty C", -1002, law("n()"));
        due("( in an E", -1004, law("n(l=(1))"));
        due("( ahead of a comparison", -1004, law("n((l)=1)"));
        due("[ around a C", -1004, law("n([l=1])"));
        due("] for )", -1005, law("n(l=0]"));
        due("a sign ahead", -1002, law("n(-1<l)"));
        due("p without E", -1001, law("p(l=0)"));
        due("another letter", -1002, law("n(a=0)"));
        due("a capital", -1000, law("N(l=0)"));
        due("a byte above 127", -1002, law("n(" + (char) 236 + "=0)"));
        due("all letters", 1, law("n(l+i+w+m+o+k+d+b+f+g>0)"));
        due("five digits", 1, law("n(l=99999)"));
        due("a sixth digit", -2009, law("n(l=00000000"));
        due("a sixth digit ahead of what is wrong", -2006, law("p123456x"));
        due("digits that are apart", 1, law("n(12345+12345=12345)"));
        depthOfLaw();
        clausesOfLaw();
    }

    private static void depthOfLaw() {
        due("six (", 1, law("n((((((l=0))))))"));
        due("seven (", -5007, law("n(((((((l=0)))))))"));
        due("five ! in (", 1, law("n(!!!!!l=0)"));
        due("six ! in (", -5007, law("n(!!!!!!l=0)"));
        due("a ! is open till its PIECE ends", -5009, law("n(!!!!!l=[1])"));
        due("a ! is closed behind its PIECE", 1, law("n(!l=0&!l=1&!l=2|!l=3&!l=4|!l=5&!(l=6)|l=[1])"));
        due("six [ in an E", 1, law("p[[[[[[1]]]]]](l=0)"));
        due("seven [ in an E", -5007, law("p[[[[[[[1]]]]]]](l=0)"));
        due("five [ in a C", 1, law("n([[[[[1]]]]]=l)"));
        due("six [ in a C", -5007, law("n([[[[[[1]]]]]]=l)"));
        due("mixed", -5007, law("n((!(!([l]=1))))"));
        due("mixed, six", 1, law("n((!(!(l=1))))"));
        due("a seventh that can't stand there", -1008, law("n((((((l[0]=0))))))"));
        due("[ closed and opened", 1, law("n([1]+[2]+[3]+[4]=[5]+[6]+[7])"));
    }

    private static void clausesOfLaw() {
        String twelve = some("n(l=0);", 11) + "n(l=0)";
        due("twelve", 12, law(twelve));
        due("a thirteenth", -4084, law(twelve + ";n"));
        due("a thirteenth, p", -4084, law(twelve + ";p1(l=0)"));
        due("what is no thirteenth", -1084, law(twelve + ";l"));
        due("the end", -1084, law(twelve + ";"));
        String long160 = "n(" + some("l=0|", 38) + "l+1=0)";
        due("160 bytes", 1, law(long160));
        due("its size", 160, long160.length());
        due("count(2)", 1, x.count(2));
    }

    private static void left() {
        start(7);
        due("no BLANK", -1, x.left(0, 0, 0));
        blank("hallo");
        due("h", 7, x.left(0, 0, 0));
        due("number of o", 4, x.left(0, 4, 1));
        x.strike(0, 1, 2, 0);
        due("l", 11, x.left(0, 1, 0));
        due("number of l", 3, x.left(0, 1, 1));
        due("place 3", -1, x.left(0, 3, 0));
        due("place -1", -1, x.left(0, -1, 1));
        due("what 2", -1, x.left(0, 0, 2));
        due("what -1", -1, x.left(0, 0, -1));
        due("b 1", -1, x.left(1, 0, 0));
        due("b -1", -1, x.left(-1, 0, 0));
        x.strike(0, 0, 3, 0);
        due("nothing LEFT", -1, x.left(0, 0, 0));
    }

    /** What THE LAW says of a LETTER of BLANK 0: its price, or -7 if it may not be struck. */
    private static int said(String text, int place, int clerk) {
        int clauses = law(text);
        if (clauses < 1) due("a fine law: " + text, 1, clauses);
        return x.may(0, place, clerk, 0) == 1 ? x.may(0, place, clerk, 1) : -7;
    }

    private static void may() {
        start(8);
        due("no BLANK", -1, x.may(0, 0, 0, 0));
        blank("abcab");
        due("clerk 8", -1, x.may(0, 0, 8, 0));
        due("clerk -1", -1, x.may(0, 0, -1, 0));
        due("what 2", -1, x.may(0, 0, 0, 2));
        due("what -1", -1, x.may(0, 0, 0, -1));
        due("place 5", -1, x.may(0, 5, 0, 0));
        due("place -1", -1, x.may(0, -1, 0, 1));
        due("b 1", -1, x.may(1, 0, 0, 0));
        due("n", -7, said("n(l=2)", 2, 0));
        due("n of another", 1, said("n(l=2)", 1, 0));
        due("the price of what may not be struck", 5, law("n(l=2);p5(l=2)") == 2 ? x.may(0, 2, 0, 1) : -9);
        due("some C", -7, said("n(l=9);n(l=1)", 1, 0));
        due("the first CLAUSE", 3, said("p2(l=5);p3(l=1);p4(l=1)", 1, 0));
        due("99", 99, said("p100(l=1)", 1, 0));
        due("99 and no more", 99, said("p99(l=1)", 1, 0));
        due("0", 0, said("p1-2(l=1)", 1, 0));
        due("none of them", 1, said("p7(l=2)", 1, 0));
        letters();
        reckoning();
    }

    private static void letters() {
        x.day(42);
        x.strike(0, 1, 1, 0);
        blank("zz");
        // BLANK 0 is acab of abcab now, the LETTER at place 1 is c with number 2
        due("l", 2, said("pl(1=1)", 1, 5));
        due("i", 1, said("pi(1=1)", 1, 5));
        due("w", 2, said("pw(1=1)", 1, 5));
        due("m", 4, said("pm(1=1)", 1, 5));
        due("o", 1, said("po(1=1)", 1, 5));
        due("o of a", 2, said("po(1=1)", 0, 5));
        due("k", 5, said("pk(1=1)", 1, 5));
        due("d", 42, said("pd(1=1)", 1, 5));
        due("b", 0, said("pb(1=1)", 1, 5));
        due("b of the other", 1, x.may(1, 0, 5, 1) - x.may(0, 0, 5, 1));
        due("f behind a STRUCK one", 1, said("pf(1=1)", 1, 5));
        due("f of number 0", 1, said("pf(1=1)", 0, 5));
        due("f behind a LEFT one", 0, said("pf(1=1)", 2, 5));
        due("g ahead of a STRUCK one", 1, said("pg(1=1)", 0, 5));
        due("g of the last", 1, said("pg(1=1)", 3, 5));
        due("g ahead of a LEFT one", 0, said("pg(1=1)", 1, 5));
    }

    private static void reckoning() {
        due("from the left on, -", 3, said("p10-4-3(1=1)", 0, 0));
        due("from the left on, /", 5, said("p100/10/2(1=1)", 0, 0));
        due("* ahead of +", 14, said("p2+3*4(1=1)", 0, 0));
        due("[ ]", 20, said("p[2+3]*4(1=1)", 0, 0));
        due("/ and * from the left", 6, said("p7/2*2(1=1)", 0, 0));
        due("%", 2, said("p17%5(1=1)", 0, 0));
        due("to 0, not down", 98, said("p99+[1-4]/2(1=1)", 0, 0));
        due("rest with the sign of what is divided", 97, said("p99+[0-5]%3(1=1)", 0, 0));
        due("32 bits", 2, said("p2(99999*99999/99999=14098)", 0, 0));
        due("32 bits, to 0", 2, said("p2(65536*65536=0)", 0, 0));
        due("32 bits, below 0", 2, said("p2(65535*65535<0)", 0, 0));
        due("the least by -1", 2, said("p2([32768*65536]/[0-1]<0)", 0, 0));
        due("the least % -1", 2, said("p2([32768*65536]%[0-1]=0)", 0, 0));
        due("an E that is REFUSED", 0, said("p1+5/0(1=1)", 0, 0));
        due("an E that is REFUSED by %", 0, said("p5%0+50(1=1)", 0, 0));
        due("a C that is REFUSED", 1, said("p5(1/0=0)", 0, 0));
        due("a C that is REFUSED, from !", 1, said("p5(!(1/0=0))", 0, 0));
        due("a C that is REFUSED, whatever follows", 1, said("p5(1/0=0|1=1)", 0, 0));
        due("a C that is not asked further |", 5, said("p5(1=1|1/0=0)", 0, 0));
        due("a C that is not asked further &", 5, said("p5(1=2&1/0=0|1=1)", 0, 0));
        due("a C that is asked further &", 1, said("p5(1=1&1/0=0|1=1)", 0, 0));
        due("the next CLAUSE", 6, said("p5(1/0=0);p6(1=1)", 0, 0));
        due("n that is REFUSED", 1, said("n(1%0=0)", 0, 0));
        due("& binds more than |", 5, said("p5(1=1|1=1&1=2)", 0, 0));
        due("( )", 1, said("p5((1=1|1=1)&1=2)", 0, 0));
        due("! of the PIECE alone", 5, said("p5(!1=2&1=1)", 0, 0));
        due("!!", 5, said("p5(!!1=1)", 0, 0));
        due("! of ( )", 1, said("p5(!(1=2|1=1))", 0, 0));
        due("<", 1, said("p5(1<1)", 0, 0));
        due(">", 1, said("p5(1>1)", 0, 0));
        due("> holds", 5, said("p5(2>1)", 0, 0));
        due("deep stack", 63, said("p1+2*[1+2*[1+2*[1+2*[1+2*[1+0*[1+1]]]]]](1=1)", 0, 0));
    }

    private static void strike() {
        start(9);
        due("no BLANK", -1, x.strike(0, 0, 1, 0));
        blank("abcdefghijkl");
        due("n 0", -1, x.strike(0, 0, 0, 0));
        due("n 10", -1, x.strike(0, 0, 10, 0));
        due("clerk 8", -1, x.strike(0, 0, 1, 8));
        due("clerk -1", -1, x.strike(0, 0, 1, -1));
        due("place -1", -1, x.strike(0, -1, 1, 0));
        due("place 12", -1, x.strike(0, 12, 1, 0));
        due("not so many", -1, x.strike(0, 4, 9, 0));
        due("b 1", -1, x.strike(1, 0, 1, 0));
        law("pl+m(1=1);n(l=5)");
        due("one may not", -2, x.strike(0, 3, 3, 2));
        due("nothing changed", 12, x.count(10));
        due("none in THE BOOK", 0, x.count(5));
        x.day(3);
        due("as it is ahead of the STROKE", 0 + 12 + 1 + 12 + 2 + 12, x.strike(0, 0, 3, 2));
        due("then with fewer LEFT", 3 + 9 + 4 + 9, x.strike(0, 0, 2, 1));
        due("7 LEFT", 7, x.count(10));
        due("what it cost", 3 + 9 + 4 + 9, x.book(1, 3));
        due("what all cost", 39 + 25, x.count(7));
        law("pf*10+g(1=1)");
        due("f and g ahead of the STROKE", 10, x.strike(0, 0, 3, 0));
        due("to the last one", 10 + 0 + 0 + 1, x.strike(0, 0, 4, 0));
        due("none LEFT", 0, x.count(10));
        due("none to be struck", -1, x.strike(0, 0, 1, 0));
        fullBook();
    }

    private static void fullBook() {
        start(9);
        blank(some("a", 40));
        blank(some("b", 40));
        for (int k = 0; k < 30; k++) {
            due("stroke", 1, x.strike(0, 0, 1, 0));
            due("stroke", 1, x.strike(1, 0, 1, 0));
        }
        due("60", 60, x.count(5));
        due("THE BOOK is full", -3, x.strike(0, 0, 1, 0));
        due("no such ones come first", -1, x.strike(0, 0, 10, 0));
        law("n(k=1)");
        due("may not, and full", -2, x.strike(0, 0, 1, 1));
        due("still ten", 10, x.count(10));
        due("back", 1, x.back(1));
        due("room again", 1, x.strike(0, 0, 1, 0));
        due("full again", -3, x.strike(0, 0, 1, 0));
    }

    private static void back() {
        start(10);
        due("no BLANK", -1, x.back(0));
        blank("abcdef");
        blank("xyz");
        due("no STROKE", -1, x.back(0));
        x.strike(0, 1, 2, 3);
        x.day(1);
        x.strike(1, 0, 1, 4);
        x.day(2);
        x.strike(0, 1, 2, 5);
        x.strike(1, 1, 1, 6);
        due("TAKEN BACK", 2, x.back(0));
        due("LEFT again", 4, x.count(10));
        due("d", 3, x.left(0, 1, 0));
        due("those behind it move up", 6, x.book(2, 1));
        due("its number", 2, x.book(2, 10));
        due("its day", 2, x.book(2, 2));
        due("its blank", 1, x.book(2, 0));
        due("three", 3, x.count(5));
        due("the first one", 2, x.back(0));
        due("all LEFT", 6, x.count(10));
        due("b", 1, x.left(0, 1, 0));
        due("moved up", 4, x.book(0, 1));
        due("no more", -1, x.back(0));
        due("the other", 1, x.back(1));
        due("the other", 1, x.back(1));
        due("no more", -1, x.back(1));
        due("none", 0, x.count(5));
        due("none cost", 0, x.count(7));
        for (int wild : WILD) due("back(" + wild + ")", -1, x.back(wild));
    }

    private static void book() {
        start(11);
        due("none", -1000, x.book(0, 0));
        blank("abcdefghijkl");
        blank("abcdefghijkl");
        law("p4(l=3)");
        x.day(9);
        x.strike(1, 2, 9, 6);
        int[] want = {1, 6, 9, 12, 9};
        for (int what = 0; what < 5; what++) due("book(0, " + what + ")", want[what], x.book(0, what));
        for (int what = 5; what < 10; what++) due("book(0, " + what + ")", -1000, x.book(0, what));
        for (int k = 0; k < 9; k++) due("letter " + k, k + 2, x.book(0, 10 + k));
        due("book(0, 19)", -1000, x.book(0, 19));
        due("book(0, -1)", -1000, x.book(0, -1));
        due("book(1, 0)", -1000, x.book(1, 0));
        due("book(-1, 0)", -1000, x.book(-1, 0));
        x.strike(1, 1, 2, 0);
        due("own numbers over a gap", 1, x.book(1, 10));
        due("own numbers over a gap", 11, x.book(1, 11));
        for (int wild : WILD) {
            due("book(wild, 0)", -1000, x.book(wild, 0));
            due("book(0, wild)", -1000, x.book(0, wild));
        }
    }

    private static void ways() {
        start(12);
        due("none", -1, x.ways(0, 0));
        blank(some("a", 40));
        due("no DEED", -1, x.ways(0, 0));
        deed(0, some("a", 16));
        due("40 over 16", 62852101650L, x.ways(0, 0));
        deed(1, "b");
        due("it does not COME", 0, x.ways(0, 1));
        due("b 1", -1, x.ways(1, 0));
        due("i 8", -1, x.ways(0, 8));
        due("i -1", -1, x.ways(0, -1));
        deed(1, "ab");
        blank("aabb");
        due("aabb", 4, x.ways(1, 1));
        x.strike(1, 0, 1, 0);
        due("as LEFT", 2, x.ways(1, 1));
        blank("ab");
        due("the same", 1, x.ways(2, 1));
        blank("a");
        due("longer than the BLANK", 0, x.ways(3, 1));
    }

    private static void cheapest() {
        start(13);
        due("none", -1, x.cheapest(0, 0, 0, -1));
        blank("abab");
        deed(0, "ab");
        law("p5(w=0);p9(w=2);n(k=1&l=0);n(k=2&w=3)");
        due("price", 6, x.cheapest(0, 0, 0, -1));
        // a1 stays, a2 goes would cost 9 + 1: of the others it is cheapest to strike a0 and b1
        due("place of a", 2, x.cheapest(0, 0, 0, 0));
        due("place of b", 3, x.cheapest(0, 0, 0, 1));
        due("no such place", -1, x.cheapest(0, 0, 0, 2));
        due("what -2", -1, x.cheapest(0, 0, 0, -2));
        due("all a must stay", -2, x.cheapest(0, 0, 1, -1));
        due("all a must stay", -2, x.cheapest(0, 0, 1, 0));
        due("wrong ones ahead of -2", -1, x.cheapest(0, 0, 1, 2));
        due("b 3 must stay", 6, x.cheapest(0, 0, 2, -1));
        due("clerk 8", -1, x.cheapest(0, 0, 8, -1));
        due("b 1", -1, x.cheapest(1, 0, 0, -1));
        due("i 1", -1, x.cheapest(0, 1, 0, -1));
        law("p0(1=2)");
        due("of like ones the least row", 0, x.cheapest(0, 0, 0, 0));
        due("of like ones the least row", 1, x.cheapest(0, 0, 0, 1));
        deed(1, "ba");
        due("one way", 2, x.cheapest(0, 1, 0, -1));
        deed(2, "abab");
        due("nothing goes", 0, x.cheapest(0, 2, 0, -1));
        deed(3, "c");
        due("does not COME", -2, x.cheapest(0, 3, 0, -1));
        blank(some("a", 40));
        deed(4, "a");
        law("p99(1=1)");
        due("dear", 39 * 99, x.cheapest(1, 4, 0, -1));
    }

    private static void done() {
        start(14);
        due("none", -1, x.done(0, 0, 0));
        blank(some("b", 20) + "a" + some("c", 12));
        deed(0, "a");
        law("pm(1=1);n(k=1)");
        due("clerk 8", -1, x.done(0, 0, 8));
        due("it can't be", -2, x.done(0, 0, 1));
        due("nothing struck", 33, x.count(10));
        x.day(5);
        due("strokes", 5, x.done(0, 0, 3));
        int[] sizes = {9, 3, 9, 9, 2};
        int[] firsts = {24, 21, 11, 2, 0};
        for (int k = 0; k < 5; k++) {
            due("size " + k, sizes[k], x.book(k, 4));
            due("first " + k, firsts[k], x.book(k, 10));
            due("last " + k, firsts[k] + sizes[k] - 1, x.book(k, 9 + sizes[k]));
            due("cost as asked " + k, 33 * sizes[k], x.book(k, 3));
            due("clerk " + k, 3, x.book(k, 1));
            due("day " + k, 5, x.book(k, 2));
        }
        due("one LEFT", 1, x.count(10));
        due("nothing to do", 0, x.done(0, 0, 3));
        due("nothing to do for a clerk who may not", 0, x.done(0, 0, 1));
        deed(1, "d");
        due("does not COME", -2, x.done(0, 1, 0));
        due("i 2", -1, x.done(0, 2, 0));
        due("b 1", -1, x.done(1, 0, 0));
        doneWithoutRoom();
    }

    private static void doneWithoutRoom() {
        start(14);
        blank(some("a", 40));
        blank(some("b", 40));
        blank("acac");
        deed(0, "aa");
        for (int k = 0; k < 29; k++) {
            x.strike(0, 0, 1, 0);
            x.strike(1, 0, 1, 0);
        }
        x.strike(1, 0, 1, 0);
        due("room for one, two are needed", -3, x.done(2, 0, 0));
        due("none struck", 4, x.count(12));
        due("none written", 59, x.count(5));
        x.back(0);
        due("room for two", 2, x.done(2, 0, 0));
        due("full", 60, x.count(5));
        due("nothing to do in a full BOOK", 0, x.done(2, 0, 0));
    }

    private static void strokes() {
        start(15);
        due("none", -1, x.strokes(0, 0, 1));
        blank("axxxaxxb");
        deed(0, "ab");
        due("w 0", -1, x.strokes(0, 0, 0));
        due("w 10", -1, x.strokes(0, 0, 10));
        due("w -1", -1, x.strokes(0, 0, -1));
        due("w 1", 6, x.strokes(0, 0, 1));
        due("w 2", 3, x.strokes(0, 0, 2));
        due("w 3", 2, x.strokes(0, 0, 3));
        due("w 6", 1, x.strokes(0, 0, 6));
        deed(1, "ba");
        due("does not COME", -2, x.strokes(0, 1, 3));
        deed(2, "axxaxb");
        due("gaps apart", 2, x.strokes(0, 2, 9));
        deed(3, "axxxaxxb");
        due("none needed", 0, x.strokes(0, 3, 1));
        x.strike(0, 1, 2, 0);
        due("as LEFT", 1, x.strokes(0, 0, 4));
        due("i 4", -1, x.strokes(0, 4, 1));
        due("b 1", -1, x.strokes(1, 0, 1));
        blank(some("a", 40));
        due("40 and 2", -2, x.strokes(1, 0, 1));
        deed(0, "aa");
        due("38 by 9", 5, x.strokes(1, 0, 9));
    }

    private static void even() {
        start(16);
        due("none", -1, x.even(0, 0, 1));
        blank("aaaaa");
        deed(0, "a");
        due("w 0", -1, x.even(0, 0, 0));
        due("w 10", -1, x.even(0, 0, 10));
        due("w 1", 5, x.even(0, 0, 1));
        due("w 2", 3, x.even(0, 0, 2));
        due("w 3", 0, x.even(0, 0, 3));
        due("w 4", 2, x.even(0, 0, 4));
        due("w 5", 0, x.even(0, 0, 5));
        deed(1, "aaaaa");
        due("nothing goes", 1, x.even(0, 1, 7));
        deed(2, "b");
        due("does not COME", 0, x.even(0, 2, 1));
        x.strike(0, 0, 2, 0);
        due("as LEFT", 2, x.even(0, 0, 2));
        due("i 3", -1, x.even(0, 3, 1));
        due("b 1", -1, x.even(1, 0, 1));
        blank(some("a", 40));
        deed(3, some("a", 16));
        due("12 pairs in 17 gaps", 30421755L, x.even(1, 3, 2));
    }

    private static void hidden() {
        start(17);
        due("none", -1, x.hidden(3, -1));
        deed(0, "abcbdab");
        deed(1, "bdcaba");
        deed(2, "bcba");
        deed(3, "zzz");
        due("length", 4, x.hidden(3, -1));
        int[] want = {1, 2, 0, 1};
        for (int k = 0; k < 4; k++) due("letter " + k, want[k], x.hidden(3, k));
        due("place 4", -1, x.hidden(3, 4));
        due("place 15", -1, x.hidden(3, 15));
        due("what -2", -1, x.hidden(3, -2));
        due("of three", 4, x.hidden(7, -1));
        due("kept for the same DEEDS", 4, x.hidden(7, -1));
        int[] three = {1, 2, 1, 0};
        for (int k = 0; k < 4; k++) due("letter " + k, three[k], x.hidden(7, k));
        due("a row of none", 0, x.hidden(9, -1));
        due("no place in it", -1, x.hidden(9, 0));
        due("one", -1, x.hidden(1, -1));
        due("four", -1, x.hidden(15, -1));
        due("empty", -1, x.hidden(0, -1));
        due("one that is not told", -1, x.hidden(17, -1));
        due("bit 8", -1, x.hidden(257, -1));
        due("below 0", -1, x.hidden(-1, -1));
        deed(2, "cab");
        due("after another DEED", 3, x.hidden(7, -1));
        deed(0, some("a", 16));
        deed(7, some("a", 16));
        deed(6, some("a", 15) + "b");
        due("sixteen", 16, x.hidden(129, -1));
        due("the last", 0, x.hidden(129, 15));
        due("fifteen", 15, x.hidden(193, -1));
    }

    private static void shortest() {
        start(18);
        due("none", -1, x.shortest(3, -1));
        deed(0, "ab");
        deed(1, "ba");
        deed(2, "cc");
        deed(3, "abc");
        deed(4, some("a", 13));
        due("length", 3, x.shortest(3, -1));
        int[] want = {0, 1, 0};
        for (int k = 0; k < 3; k++) due("letter " + k, want[k], x.shortest(3, k));
        due("no such place", -1, x.shortest(3, 3));
        due("place 47", -1, x.shortest(3, 47));
        due("of three", 5, x.shortest(7, -1));
        due("of four", 5, x.shortest(15, -1));
        due("five", -1, x.shortest(31, -1));
        due("one", -1, x.shortest(1, -1));
        due("not told", -1, x.shortest(33, -1));
        due("not told, and too long", -1, x.shortest(48, -1));
        due("what -2", -1, x.shortest(3, -2));
        due("13 LETTERS", -2, x.shortest(17, -1));
        due("13 LETTERS, no such place", -2, x.shortest(17, 99));
        due("13 LETTERS, what -2", -1, x.shortest(17, -2));
        due("bit 8", -1, x.shortest(257, -1));
        due("below 0", -1, x.shortest(-2, -1));
        deed(1, "bb");
        due("after another DEED", 3, x.shortest(3, -1));
        deed(0, some("a", 12));
        deed(1, some("b", 12));
        deed(2, some("c", 12));
        deed(3, some("d", 12));
        due("the longest of them", 48, x.shortest(15, -1));
        for (int k = 0; k < 48; k++) due("letter " + k, k / 12, x.shortest(15, k));
        due("no place 48", -1, x.shortest(15, 48));
        deed(0, some("a", 13));
        due("13 LETTERS in the first", -2, x.shortest(15, -1));
        deed(0, "d");
        deed(7, some("a", 16));
        due("16 LETTERS in the last", -2, x.shortest(129, -1));
    }

    private static void shortestMany() {
        start(19);
        due("none", -1, x.shortestMany(3));
        deed(0, "ab");
        deed(1, "ba");
        deed(2, "cc");
        deed(3, some("a", 13));
        due("aba, bab", 2, x.shortestMany(3));
        due("4 over 2", 6, x.shortestMany(5));
        due("of three", 20, x.shortestMany(7));
        due("one", -1, x.shortestMany(1));
        due("13 LETTERS", -2, x.shortestMany(9));
        due("not told", -1, x.shortestMany(17));
        deed(3, "ab");
        due("the same", 1, x.shortestMany(9));
        deed(0, some("a", 12));
        deed(1, some("b", 12));
        due("24 over 12", 2704156, x.shortestMany(3));
        deed(2, some("c", 12));
        due("36 by twelves", 3384731762521200L, x.shortestMany(7));
    }

    private static void bound() {
        start(20);
        due("none", -1, x.bound(3));
        deed(0, "ab");
        deed(1, "ba");
        deed(2, "abc");
        deed(3, some("a", 13));
        due("two", 3, x.bound(3));
        due("three", 4, x.bound(7));
        due("one", -1, x.bound(2));
        due("five", -1, x.bound(31));
        due("13 LETTERS", -2, x.bound(10));
        due("what shortest() answers stays", 3, x.shortest(3, -1));
        deed(3, "ddd");
        due("four", 6, x.bound(15));
        due("less than THE SHORTEST", 7, x.shortest(15, -1));
    }

    private static void forged() {
        start(21);
        due("not told", -1, x.forged(0));
        deed(0, "ab");
        due("no BLANK", 1, x.forged(0));
        blank("ba");
        due("not from ba", 1, x.forged(0));
        blank("axb");
        due("from axb", 0, x.forged(0));
        x.strike(1, 0, 3, 0);
        due("as written", 0, x.forged(0));
        due("i 1", -1, x.forged(1));
        due("i 8", -1, x.forged(8));
        due("i -1", -1, x.forged(-1));
    }

    private static void spare() {
        start(22);
        due("none", -1, x.spare(0, 0));
        blank("abcab");
        due("no DEED", -1, x.spare(0, 1));
        deed(0, "ab");
        deed(1, "ca");
        deed(2, "d");
        due("ab", 31, x.spare(0, 1));
        due("ab and ca", 19, x.spare(0, 3));
        due("does not COME", -2, x.spare(0, 5));
        due("b 1", -1, x.spare(1, 1));
        due("bit 8", -1, x.spare(0, 257));
        due("below 0", -1, x.spare(0, -1));
        x.strike(0, 0, 1, 0);
        due("own numbers", 6, x.spare(0, 1));
        due("no DEEDS: all that is LEFT", 30, x.spare(0, 0));
        blank(some("a", 40));
        deed(3, "a");
        due("forty bits", (1L << 40) - 1, x.spare(1, 8));
    }

    private static void dayEnd() {
        start(23);
        due("none", -1, x.dayEnd(1, -1));
        blank("abc");
        blank("ab");
        blank("abcd");
        deed(0, "a");
        deed(1, "ab");
        deed(2, "z");
        deed(3, "ab");
        due("empty", -1, x.dayEnd(0, -1));
        due("not told", -1, x.dayEnd(16, -1));
        due("what -2", -1, x.dayEnd(1, -2));
        due("what 8", -1, x.dayEnd(1, 8));
        due("what 9", -1, x.dayEnd(1, 9));
        due("what 11", -1, x.dayEnd(1, 11));
        due("none of them", -2, x.dayEnd(1, 1));
        due("not told, none of them", -2, x.dayEnd(1, 7));
        due("how many", 3, x.dayEnd(15, -1));
        due("lost", 4, x.dayEnd(15, 10));
        int[] want = {0, 1, 8, 2};
        for (int i = 0; i < 4; i++) due("blank of " + i, want[i], x.dayEnd(15, i));
        due("fewest are lost", 1, x.dayEnd(1, 10));
        due("by the shortest", 1, x.dayEnd(1, 0));
        x.strike(2, 2, 2, 0);
        due("as LEFT", 2, x.dayEnd(15, 10));
        due("the least row", 0, x.dayEnd(15, 0));
        due("the least row", 1, x.dayEnd(15, 1));
        x.strike(2, 0, 2, 0);
        due("most get one", 2, x.dayEnd(15, -1));
        due("fewest are lost, the first gets none", 8, x.dayEnd(15, 0));
        due("the last gets one", 1, x.dayEnd(15, 3));
        due("nobody", 0, x.dayEnd(4, -1));
        due("nothing is lost", 0, x.dayEnd(4, 10));
        start(23);
        for (int k = 0; k < 8; k++) blank(some("a", 40 - k));
        for (int k = 0; k < 8; k++) deed(k, some("a", k + 1));
        due("all eight", 8, x.dayEnd(255, -1));
        due("lost by eight", 292 - 36, x.dayEnd(255, 10));
        for (int k = 0; k < 8; k++) due("least row", k, x.dayEnd(255, k));
    }

    private static void worth() {
        start(24);
        due("none", -1000, x.worth(0, 1, 0));
        blank("ab");
        blank("abc");
        deed(0, "ab");
        deed(1, "c");
        due("fewer", 0, x.worth(0, 1, 0));
        due("more lost", 1, x.worth(0, 1, 1));
        due("fewer of two", 1, x.worth(0, 3, 0));
        due("less lost", -1, x.worth(0, 3, 1));
        due("the other", 1, x.worth(1, 3, 0));
        due("the other", -2, x.worth(1, 3, 1));
        due("of no use", 0, x.worth(0, 2, 0));
        due("what 2", -1000, x.worth(0, 1, 2));
        due("what -1", -1000, x.worth(0, 1, -1));
        due("b 2", -1000, x.worth(2, 1, 0));
        due("b -1", -1000, x.worth(-1, 1, 0));
        due("not told", -1000, x.worth(0, 4, 0));
        due("bit 8", -1000, x.worth(0, 256, 0));
        x.strike(1, 2, 1, 0);
        due("as LEFT", 0, x.worth(0, 1, 1));
    }

    private static void family() {
        start(25);
        due("none", -1, x.family(0, 1, 1, -1));
        blank("abcabc");
        deed(0, "abca");
        deed(1, "ab");
        deed(2, "aba");
        deed(3, "ab");
        deed(4, "z");
        due("w 0", -1, x.family(0, 1, 0, -1));
        due("w 10", -1, x.family(0, 1, 10, -1));
        due("what -2", -1, x.family(0, 1, 1, -2));
        due("what 8", -1, x.family(0, 1, 1, 8));
        due("none of them", -2, x.family(0, 1, 1, 1));
        due("does not COME", -2, x.family(0, 17, 1, -1));
        due("not told", -1, x.family(0, 32, 1, -1));
        due("b 1", -1, x.family(1, 1, 1, -1));
        int[] want = {8, 2, 0, 1};
        for (int i = 0; i < 4; i++) due("parent of " + i, want[i], x.family(0, 15, 1, i));
        due("together", 2 + 1 + 1 + 0, x.family(0, 15, 1, -1));
        due("the BLANK ahead of a DEED", 8, x.family(0, 15, 9, 1));
        due("the lowest DEED", 0, x.family(0, 3, 1, 1));
        due("as long, of a lower number", 1, x.family(0, 10, 1, 3));
        due("as long, of a higher number", 8, x.family(0, 10, 1, 1));
        x.strike(0, 0, 6, 0);
        due("as written", 4, x.family(0, 15, 1, -1));
    }

    private static void chain() {
        start(26);
        due("no BLANK", -1, x.chain(0, -1));
        blank("abcabc");
        due("no DEEDS", 0, x.chain(0, -1));
        due("no place", -2, x.chain(0, 0));
        deed(0, "ab");
        deed(1, "abab");
        deed(2, "b");
        deed(3, "ab");
        deed(4, "abcab");
        deed(5, "a");
        deed(6, "zab");
        due("length", 5, x.chain(0, -1));
        int[] want = {4, 1, 0, 3, 2};
        for (int k = 0; k < 5; k++) due("place " + k, want[k], x.chain(0, k));
        due("place 5", -2, x.chain(0, 5));
        due("below NONE", -1, x.chain(0, -2));
        due("far below NONE", -1, x.chain(0, Integer.MIN_VALUE));
        due("place 8", -2, x.chain(0, 8));
        due("a place far behind", -2, x.chain(0, Integer.MAX_VALUE));
        due("no BLANK, no place", -1, x.chain(1, 8));
        due("no BLANK, below NONE", -1, x.chain(1, -2));
        due("b 1", -1, x.chain(1, -1));
        due("b -1", -1, x.chain(-1, 0));
        x.strike(0, 2, 3, 0);
        due("as LEFT", 3, x.chain(0, -1));
        due("as LEFT", 0, x.chain(0, 0));
        blank(some("a", 17));
        deed(7, some("a", 16));
        due("sixteen LETTERS, then one", 2, x.chain(1, -1));
        due("sixteen LETTERS first", 7, x.chain(1, 0));
        for (int i = 0; i < 8; i++) deed(i, "bc");
        due("eight of a kind", 8, x.chain(0, -1));
        for (int k = 0; k < 8; k++) due("place " + k, k, x.chain(0, k));
    }

    private static void seed() {
        start(27);
        due("-1", false, x.seed(-1));
        due("65536", false, x.seed(65536));
        due("X stays", 1, x.count(6));
        due("65535", true, x.seed(65535));
        due("X", 65535, x.count(6));
        due("0", true, x.seed(0));
        due("X", 0, x.count(6));
        for (int wild : WILD) if (wild < 0 || wild > 65535) due("seed(" + wild + ")", false, x.seed(wild));
    }

    private static void draw() {
        start(28);
        due("no BLANK", -1, x.draw(0, 1));
        blank("abcdefgh");
        due("n 0", -1, x.draw(0, 0));
        due("n 41", -1, x.draw(0, 41));
        due("b 1", -1, x.draw(1, 1));
        due("X stays", 1, x.count(6));
        x.day(8);
        due("two", 2, x.draw(0, 2));
        due("X", 61087, x.count(6));
        due("first", 6, x.book(0, 10));
        due("its clerk", 39022 % 8, x.book(0, 1));
        due("its day", 8, x.book(0, 2));
        due("one LETTER each", 1, x.book(1, 4));
        due("till one is LEFT", 5, x.draw(0, 40));
        int after = x.count(6);
        due("one LEFT", 1, x.count(10));
        due("none any more", 0, x.draw(0, 5));
        due("X stays at one LETTER", after, x.count(6));
        start(28);
        blank("abcdefgh");
        law("n(1=1)");
        due("it may not", 0, x.draw(0, 3));
        due("X goes on", (25173 * 61087 + 13849) & 65535, x.count(6));
        start(28);
        x.seed(65535);
        blank("ab");
        law("n(1=1)");
        x.draw(0, 1);
        due("of 65535", (int) ((25173L * 65535 + 13849) % 65536), x.count(6));
        start(28);
        for (int b = 0; b < 2; b++) {
            blank(some("a", 40));
            for (int k = 0; k < 30 - b; k++) x.strike(b, 0, 1, 0);
        }
        due("a full BOOK: none any more", 1, x.draw(0, 3));
        due("X goes on", (25173 * 61087 + 13849) & 65535, x.count(6));
        due("sixty", 60, x.count(5));
    }

    private static void check() {
        start(29);
        due("no BLANK", -2, x.check(0, 0));
        blank("caz");
        x.feed(2, 0, 25, 7, 7);
        due("n 6", -2, x.check(0, 6));
        due("n -1", -2, x.check(0, -1));
        due("n MAX", -2, x.check(0, Integer.MAX_VALUE));
        due("n 2 to 30", -2, x.check(0, 1 << 30));
        due("b 1", -2, x.check(1, 3));
        due("the tape stays", 20, x.count(3));
        due("right", -1, x.check(0, 3));
        due("the tape is empty", 0, x.count(3));
        x.feed(2, 0, 25, 7, 7);
        due("more than are LEFT", 3, x.check(0, 4));
        x.feed(2, 0, 25, 7, 7);
        due("some are lacking", 2, x.check(0, 2));
        x.feed(2, 1, 25, 7, 7);
        due("the first that is not so", 1, x.check(0, 3));
        x.feed(258, 0, 25, 7, 7);
        due("all four bytes count", 0, x.check(0, 3));
        x.feed(0x02000000 + 2, 0, 25, 7, 7);
        due("the highest byte, too", 0, x.check(0, 3));
        due("none told", 0, x.check(0, 0));
        x.strike(0, 1, 1, 0);
        x.feed(2, 25, 25, 7, 7);
        due("those LEFT", -1, x.check(0, 2));
        x.strike(0, 0, 2, 0);
        due("none LEFT, none told", -1, x.check(0, 0));
        x.feed(2, 25, 25, 7, 7);
        due("none LEFT", 0, x.check(0, 1));
    }

    private static void count() {
        start(30);
        blank("abcd");
        blank("xy");
        deed(0, "ab");
        deed(5, "xyz");
        law("p3(1=1);n(l=25)");
        x.day(77);
        x.seed(12);
        x.strike(0, 0, 2, 0);
        x.strike(1, 0, 1, 0);
        x.feed(0, 0, 0, 0, 0);
        int[] want = {2, 33, 2, 20, 77, 2, 12, 9, -1, -1, 2, 1, -1, -1, -1, -1, -1, -1, -1, -1, 2, 0, 0, 0, 0, 3, 0, 0, -1, -1};
        for (int what = 0; what < want.length; what++) due("count(" + what + ")", want[what], x.count(what));
        for (int wild : WILD) due("count(" + wild + ")", -1, x.count(wild));
        due("count(-1)", -1, x.count(-1));
    }

    public static void main(String[] args) {
        aNewObject();
        day();
        feed();
        blank();
        deed();
        law();
        left();
        may();
        strike();
        back();
        book();
        ways();
        cheapest();
        done();
        strokes();
        even();
        hidden();
        shortest();
        shortestMany();
        bound();
        forged();
        spare();
        dayEnd();
        worth();
        family();
        chain();
        seed();
        draw();
        check();
        count();
        Due.end();
    }
}

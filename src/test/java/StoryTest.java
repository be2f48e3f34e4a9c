/**
 * Long runs on one object, told call by call: many methods follow one another, and what one changes the next must see.
 * The answers were reckoned by hand from the document, the reason beside them where it does not show.
 */
public final class StoryTest {
    private static Office x = new Office();

    private static void start(String story) {
        Due.sentence(story);
        x = new Office();
    }

    private static void due(String call, long want, long got) { Due.is("call " + x.calls() + ", " + call, want, got); }

    private static void due(String call, boolean want, boolean got) { due(call, want ? 1 : 0, got ? 1 : 0); }

    // ---- all methods behind one another: abracadabra and banana ----

    private static void allMethods() {
        start("all methods on one object");
        tellFirst();
        askRows();
        askSeveral();
        strikeByLaw();
        doIt();
        shareAndTakeBack();
        strikeTheOther();
        drawAndCheck();
        familyAsWritten();
        otherLaws();
    }

    private static void tellFirst() {
        due("count(6)", 1, x.count(6));
        x.feed("abracadabra");
        due("count(3)", 20, x.count(3));
        due("blank(11)", 0, x.blank(11));
        due("count(3)", 0, x.count(3));
        due("banana", 1, x.blank("banana"));
        due("forged(0), not told", -1, x.forged(0));
        due("aba", 3, x.deed(0, "aba"));
        due("ana", 3, x.deed(1, "ana"));
        due("aa", 2, x.deed(2, "aa"));
        due("bra", 3, x.deed(3, "bra"));
        due("count(1)", 15, x.count(1));
        due("count(0)", 2, x.count(0));
    }

    private static void askRows() {
        due("aba of abracadabra: 1 * 4 by the first b, 4 * 1 by the second", 8, x.ways(0, 0));
        due("ana of abracadabra", 0, x.ways(0, 1));
        due("aa of abracadabra: two of five", 10, x.ways(0, 2));
        due("bra of abracadabra", 6, x.ways(0, 3));
        due("aba of banana", 0, x.ways(1, 0));
        due("ana of banana", 4, x.ways(1, 1));
        due("aa of banana", 3, x.ways(1, 2));
        due("bra of banana", 0, x.ways(1, 3));
        for (int i = 0; i < 4; i++) due("forged(" + i + ")", 0, x.forged(i));
        due("each LETTER is spare for bra", 2047, x.spare(0, 8));
        due("each LETTER is spare for ana", 63, x.spare(1, 2));
        due("aba does not come from banana", -2, x.spare(1, 1));
    }

    private static void askSeveral() {
        Due.same("aba, ana: aa", new long[] {2, 0, 0, -1}, new long[] {x.hidden(3, -1), x.hidden(3, 0), x.hidden(3, 1), x.hidden(3, 2)});
        Due.same("aba, ana, bra: a", new long[] {1, 0, -1}, new long[] {x.hidden(11, -1), x.hidden(11, 0), x.hidden(11, 1)});
        Due.same("aba, bra: ba", new long[] {2, 1, 0}, new long[] {x.hidden(9, -1), x.hidden(9, 0), x.hidden(9, 1)});
        due("aba, ana: abna, anba", 2, x.shortestMany(3));
        due("the first: abna", 1, "abna".equals(x.shortestRow(3)) ? 1 : 0);
        due("aba, bra: abra alone", 1, x.shortestMany(9));
        due("it is abra", 1, "abra".equals(x.shortestRow(9)) ? 1 : 0);
        due("ana, bra have but an a in common", 5, x.bound(11));
        due("aba, ana, bra: abnra, abrna, anbra", 3, x.shortestMany(11));
        due("the first: abnra", 1, "abnra".equals(x.shortestRow(11)) ? 1 : 0);
    }

    private static void strikeByLaw() {
        due("three CLAUSES", 3, x.law("p3(l=0);n(k=2&l=1);p[w-i]*5(f=1)"));
        due("count(2)", 3, x.count(2));
        due("CLERK 2 may strike no b", 0, x.may(0, 1, 2, 0));
        due("CLERK 3 may", 1, x.may(0, 1, 3, 0));
        due("the b behind an a that is LEFT", 1, x.may(0, 1, 2, 1));
        due("an a", 3, x.may(0, 0, 0, 1));
        due("number 0: f is 1, w less i is 0", 0, x.may(1, 0, 0, 1));
        due("c and a", 4, x.strike(0, 4, 2, 5));
        due("nine are LEFT", 9, x.count(10));
        due("d: the one ahead of it is STRUCK, two are", 10, x.may(0, 4, 0, 1));
        due("aba of abradabra", 6, x.ways(0, 0));
        due("bra of abradabra", 5, x.ways(0, 3));
        Due.same("strokes for bra by widths 1, 2, 3, 9", new long[] {6, 3, 2, 1},
            new long[] {x.strokes(0, 3, 1), x.strokes(0, 3, 2), x.strokes(0, 3, 3), x.strokes(0, 3, 9)});
        Due.same("even strokes for bra by widths 1 to 6", new long[] {5, 1, 1, 0, 0, 1},
            new long[] {x.even(0, 3, 1), x.even(0, 3, 2), x.even(0, 3, 3), x.even(0, 3, 4), x.even(0, 3, 5), x.even(0, 3, 6)});
        due("26 for all, 5 stay", 21, x.cheapest(0, 3, 5, -1));
        Due.same("the first of them", new long[] {1, 2, 3, -1},
            new long[] {x.cheapest(0, 3, 5, 0), x.cheapest(0, 3, 5, 1), x.cheapest(0, 3, 5, 2), x.cheapest(0, 3, 5, 3)});
        due("a b must go, CLERK 2 may not", -2, x.cheapest(0, 3, 2, -1));
    }

    private static void doIt() {
        due("day(40)", true, x.day(40));
        due("day(39)", false, x.day(39));
        due("CLERK 2 can't", -2, x.done(0, 3, 2));
        due("CLERK 5 does it by two", 2, x.done(0, 3, 5));
        Due.same("STROKE 0", new long[] {0, 5, 0, 4, 2, 4, 5, -1000}, stroke(0, 3));
        Due.same("STROKE 1, from the end back", new long[] {0, 5, 40, 18, 5, 6, 7, 8, 9, 10, -1000}, stroke(1, 6));
        Due.same("STROKE 2", new long[] {0, 5, 40, 3, 1, 0, -1000}, stroke(2, 2));
        due("three STROKES", 3, x.count(5));
        due("4, 18, 3", 25, x.count(7));
        due("bra is LEFT", 1, "bra".equals(x.rest(0)) ? 1 : 0);
        Due.same("own numbers", new long[] {1, 2, 3, -1}, new long[] {x.left(0, 0, 1), x.left(0, 1, 1), x.left(0, 2, 1), x.left(0, 3, 1)});
        Due.same("ways of bra, aba, aa", new long[] {1, 0, 0}, new long[] {x.ways(0, 3), x.ways(0, 0), x.ways(0, 2)});
        due("as written it still comes", 0, x.forged(0));
        Due.same("a chain of bra", new long[] {1, 3, -2}, new long[] {x.chain(0, -1), x.chain(0, 0), x.chain(0, 1)});
        Due.same("a chain of banana", new long[] {2, 1, 2, -2}, new long[] {x.chain(1, -1), x.chain(1, 0), x.chain(1, 1), x.chain(1, 2)});
    }

    /** What book() tells, with so many of its LETTERS. */
    private static long[] stroke(int i, int letters) {
        long[] all = new long[5 + letters];
        for (int k = 0; k < 5; k++) all[k] = x.book(i, k);
        for (int k = 0; k < letters; k++) all[5 + k] = x.book(i, 10 + k);
        return all;
    }

    /** How many get one, how many LETTERS are lost, and the BLANKS of DEEDS 0 to 3. */
    private static long[] shared() {
        return new long[] {x.dayEnd(15, -1), x.dayEnd(15, 10), x.dayEnd(15, 0), x.dayEnd(15, 1), x.dayEnd(15, 2), x.dayEnd(15, 3)};
    }

    private static void shareAndTakeBack() {
        Due.same("bra, banana: ana of the second, bra of the first", new long[] {2, 3, 8, 1, 8, 0}, shared());
        due("DEED 3 is none of them", -2, x.dayEnd(7, 3));
        Due.same("worth of BLANK 0", new long[] {1, 0}, new long[] {x.worth(0, 15, 0), x.worth(0, 15, 1)});
        Due.same("worth of BLANK 1", new long[] {1, -3}, new long[] {x.worth(1, 15, 0), x.worth(1, 15, 1)});
        due("the a comes back", 1, x.back(0));
        Due.same("LEFT, STROKES, costs", new long[] {4, 2, 22}, new long[] {x.count(10), x.count(5), x.count(7)});
        due("aba of abra", 1, x.ways(0, 0));
        Due.same("abra, banana: aba is ahead of bra", new long[] {2, 4, 0, 1, 8, 8}, shared());
        Due.same("worth of BLANK 0", new long[] {1, -1}, new long[] {x.worth(0, 15, 0), x.worth(0, 15, 1)});
    }

    private static void strikeTheOther() {
        due("a and n by CLERK 2", 4, x.strike(1, 1, 2, 2));
        due("b by CLERK 2", -2, x.strike(1, 0, 1, 2));
        due("b by CLERK 7 for nothing", 0, x.strike(1, 0, 1, 7));
        due("ana is LEFT", 1, "ana".equals(x.rest(1)) ? 1 : 0);
        due("an a", 3, x.may(1, 0, 0, 1));
        due("an n behind an a that is LEFT", 1, x.may(1, 1, 0, 1));
        due("four STROKES", 4, x.count(5));
        due("the last one of BLANK 0 is not the last one", 5, x.back(0));
        Due.same("those behind it move up", new long[] {1, 2, 40, 4, 2, 1, 2}, stroke(1, 2));
        Due.same("both", new long[] {1, 7, 40, 0, 1, 0}, stroke(2, 1));
        due("no fourth", -1000, x.book(3, 0));
        Due.same("STROKES, costs, LEFT", new long[] {3, 8, 9, 3}, new long[] {x.count(5), x.count(7), x.count(10), x.count(11)});
    }

    private static void drawAndCheck() {
        due("seed(1)", true, x.seed(1));
        due("seed(65536)", false, x.seed(65536));
        due("39022: PLACE 7 by CLERK 6; 61087: PLACE 7 by CLERK 7", 2, x.draw(0, 2));
        due("X", 61087, x.count(6));
        Due.same("an r", new long[] {0, 6, 40, 1, 1, 9}, stroke(3, 1));
        Due.same("an a", new long[] {0, 7, 40, 3, 1, 10}, stroke(4, 1));
        due("costs", 12, x.count(7));
        x.numbers(0, 1, 17, 0, 3, 0, 1);
        due("abradab is right", -1, x.check(0, 7));
        due("the tape is empty", 0, x.count(3));
        x.numbers(0, 1, 17, 0, 4);
        due("an e for the d", 4, x.check(0, 5));
        x.numbers(0, 1);
        due("five are lacking", 2, x.check(0, 2));
    }

    private static void familyAsWritten() {
        Due.same("aba, aa, bra of abracadabra by ones", new long[] {17, 8, 0, 8},
            new long[] {x.family(0, 13, 1, -1), x.family(0, 13, 1, 0), x.family(0, 13, 1, 2), x.family(0, 13, 1, 3)});
        Due.same("by nines: one STROKE each, the BLANK ahead of a DEED", new long[] {3, 8, 8, 8},
            new long[] {x.family(0, 13, 9, -1), x.family(0, 13, 9, 0), x.family(0, 13, 9, 2), x.family(0, 13, 9, 3)});
        due("ana does not come", -2, x.family(0, 15, 1, -1));
        due("DEED 1 is none of them", -2, x.family(0, 13, 1, 1));
    }

    private static void otherLaws() {
        due("nothing may be struck", 1, x.law("n(1=1)"));
        due("strike", -2, x.strike(0, 0, 1, 0));
        due("bra of abradab", -2, x.done(0, 3, 0));
        due("ana of ana: nothing goes", 0, x.done(1, 1, 0));
        due("none is drawn", 0, x.draw(0, 3));
        due("X goes on", 3882, x.count(6));
        due("a FAULT at its end", -1005, x.law("n(1=1"));
        due("the TEXT before stays", 1, x.count(2));
        due("it does", -2, x.strike(0, 0, 1, 0));
        due("prices beyond their bound", 2, x.law("p99*9(d>39);n(d<1)"));
        due("99 and 99", 198, x.strike(0, 0, 2, 0));
        due("costs", 210, x.count(7));
        due("back", 2, x.back(0));
        due("costs", 12, x.count(7));
        due("abradab", 1, "abradab".equals(x.rest(0)) ? 1 : 0);
    }

    // ---- THE BOOK fills: two BLANKS of forty ----

    private static void theBookFills() {
        start("THE BOOK fills");
        x.blank("a".repeat(40));
        x.blank("a".repeat(40));
        x.deed(0, "a");
        x.deed(1, "aaaa");
        for (int k = 0; k < 30; k++) due("from the front on", 1, x.strike(0, 0, 1, k % 8));
        for (int k = 0; k < 29; k++) due("from PLACE 5 on", 1, x.strike(1, 5, 1, 3));
        Due.same("STROKES, costs, LEFT", new long[] {59, 59, 10, 11}, new long[] {x.count(5), x.count(7), x.count(10), x.count(11)});
        due("one of ten", 10, x.ways(0, 0));
        due("four of eleven", 330, x.ways(1, 1));
        due("ten go: by two", 2, x.strokes(1, 0, 9));
        due("0 and 10, 5 and 5, 10 and 0", 3, x.even(1, 0, 5));
        due("no nine and one", 0, x.even(1, 0, 9));
        due("no room for two", -3, x.done(1, 0, 4));
        Due.same("nothing changed", new long[] {59, 11}, new long[] {x.count(5), x.count(11)});
        due("room for one of nine", 1, x.done(0, 0, 4));
        Due.same("the sixtieth", new long[] {0, 4, 0, 9, 9, 31, 32, 33, 34, 35, 36, 37, 38, 39, -1000}, stroke(59, 10));
        full();
        roomAgain();
        askBehind();
    }

    private static void full() {
        due("strike", -3, x.strike(1, 0, 1, 0));
        due("the last LETTER", -3, x.strike(0, 0, 1, 0));
        due("not so many are LEFT", -1, x.strike(1, 8, 9, 0));
        due("nothing goes: no room is needed", 0, x.done(0, 0, 4));
        due("seven go", -3, x.done(1, 1, 4));
        due("X", 1, x.count(6));
        due("none is drawn", 0, x.draw(1, 3));
        due("X goes on", 20196, x.count(6));
        due("one LETTER is LEFT", 0, x.draw(0, 3));
        due("X does not go on", 20196, x.count(6));
    }

    private static void roomAgain() {
        due("one back", 1, x.back(1));
        Due.same("the one behind it moves up", new long[] {0, 9, -1000}, new long[] {x.book(58, 0), x.book(58, 4), x.book(59, 0)});
        due("45005: PLACE 5; then it is full", 1, x.draw(1, 3));
        due("X goes on", 21259, x.count(6));
        Due.same("drawn", new long[] {1, 5, 0, 1, 1, 33}, stroke(59, 1));
        due("nine back", 9, x.back(0));
        due("one back", 1, x.back(0));
        Due.same("the first of BLANK 1 is ahead now", new long[] {1, 3, 0, 1, 1, 5}, stroke(29, 1));
        due("ten go: nine from the end, then one", 2, x.done(1, 0, 6));
        Due.same("nine", new long[] {1, 6, 0, 9, 9, 2, 3, 4, 34, 35, 36, 37, 38, 39}, stroke(58, 9));
        Due.same("one", new long[] {1, 6, 0, 1, 1, 1}, stroke(59, 1));
        Due.same("STROKES, costs, LEFT", new long[] {60, 68, 11, 1}, new long[] {x.count(5), x.count(7), x.count(10), x.count(11)});
    }

    private static void askBehind() {
        due("eleven, each of them spare", 2047L << 29, x.spare(0, 1));
        due("one, not spare", 0, x.spare(1, 1));
        due("aaaa does not come", -2, x.spare(1, 2));
        Due.same("a chain of eleven", new long[] {2, 1, 0}, new long[] {x.chain(0, -1), x.chain(0, 0), x.chain(0, 1)});
        Due.same("a chain of one", new long[] {1, 0}, new long[] {x.chain(1, -1), x.chain(1, 0)});
        Due.same("the day's end", new long[] {2, 7, 1, 0}, new long[] {x.dayEnd(3, -1), x.dayEnd(3, 10), x.dayEnd(3, 0), x.dayEnd(3, 1)});
        Due.same("worth", new long[] {1, -7, 1, 0}, new long[] {x.worth(0, 3, 0), x.worth(0, 3, 1), x.worth(1, 3, 0), x.worth(1, 3, 1)});
        Due.same("as written, by nines: 39 by 5, 3 by 1", new long[] {5, 1, 8},
            new long[] {x.family(0, 3, 9, -1), x.family(0, 3, 9, 0), x.family(0, 3, 9, 1)});
    }

    // ---- DEEDS in place of those before ----

    private static void deedsChange() {
        start("DEEDS in place of those before");
        x.deed(0, "abc");
        x.deed(1, "acb");
        x.deed(2, "bca");
        x.deed(3, "cab");
        due("abc, acb: ab ahead of ac", 1, "ab".equals(x.hiddenRow(3)) ? 1 : 0);
        due("abc, acb, bca: a", 1, "a".equals(x.hiddenRow(7)) ? 1 : 0);
        due("abc, acb: abcb ahead of acbc", 1, "abcb".equals(x.shortestRow(3)) ? 1 : 0);
        due("both", 2, x.shortestMany(3));
        due("acb, bca have but one in common", 5, x.bound(15));
        due("all four: abcab", 1, "abcab".equals(x.shortestRow(15)) ? 1 : 0);
        due("that alone", 1, x.shortestMany(15));
        due("the first three: abcab, abcba, acbca", 3, x.shortestMany(7));
        x.deed(3, "zzz");
        due("56 places for zzz in each", 168, x.shortestMany(15));
        due("the first: abcabzzz", 1, "abcabzzz".equals(x.shortestRow(15)) ? 1 : 0);
        due("abc, zzz", 6, x.bound(15));
        due("abc, zzz", 0, x.hidden(9, -1));
        due("abc, acb as before", 2, x.hidden(3, -1));
        x.deed(0, "zz");
        Due.same("zz, zzz", new long[] {2, 25, 3, 1}, new long[] {x.hidden(9, -1), x.hidden(9, 0), x.shortest(9, -1), x.shortestMany(9)});
        due("none in common with acb any more", 0, x.hidden(3, -1));
        due("a byte that is no LETTER", -2, x.deed(0, "z?"));
        due("the one before stays", 2, x.hidden(9, -1));
        x.deed(4, "abcabcabcabca");
        Due.same("thirteen LETTERS", new long[] {-2, -2, -2, 0, 3},
            new long[] {x.shortest(17, -1), x.shortestMany(17), x.bound(17), x.hidden(17, -1), x.hidden(18, -1)});
        deedsOfOneBlank();
    }

    private static void deedsOfOneBlank() {
        due("no BLANK yet: forged", 1, x.forged(1));
        due("abcabzzz", 0, x.blank("abcabzzz"));
        Due.same("forged", new long[] {0, 0, 0, 0, 1, -1},
            new long[] {x.forged(0), x.forged(1), x.forged(2), x.forged(3), x.forged(4), x.forged(5)});
        long[] family = {11, 3, 8, 8, 8};
        Due.same("zz of zzz, the others of the BLANK", family, family());
        Due.same("a chain: zzz, zz", new long[] {2, 3, 0}, new long[] {x.chain(0, -1), x.chain(0, 0), x.chain(0, 1)});
        due("abcab goes", 1, x.done(0, 3, 7));
        due("zzz is LEFT", 1, "zzz".equals(x.rest(0)) ? 1 : 0);
        due("one z goes", 1, x.strokes(0, 0, 9));
        due("acb does not come any more", -2, x.strokes(0, 1, 9));
        Due.same("as written it is the same family", family, family());
        x.deed(5, "zzz");
        Due.same("a chain: zzz, zzz, zz", new long[] {3, 3, 5, 0}, new long[] {x.chain(0, -1), x.chain(0, 0), x.chain(0, 1), x.chain(0, 2)});
        Due.same("of like ones the lower number is the PARENT", new long[] {8, 3}, new long[] {x.family(0, 40, 2, 3), x.family(0, 40, 2, 5)});
        due("five back", 5, x.back(0));
        due("abcabzzz", 1, "abcabzzz".equals(x.rest(0)) ? 1 : 0);
    }

    private static long[] family() {
        long[] all = new long[5];
        for (int what = -1; what < 4; what++) all[what + 1] = x.family(0, 15, 2, what);
        return all;
    }

    public static void main(String[] args) {
        allMethods();
        theBookFills();
        deedsChange();
        Due.end();
    }
}

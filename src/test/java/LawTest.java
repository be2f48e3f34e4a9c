/** THE LAW: the boundary cases of its TEXT, of its FAULTS and of what is reckoned. */
public final class LawTest {
    private static Office x = new Office();

    private static void start(String sentence) {
        Due.sentence(sentence);
        x = new Office();
    }

    private static String some(String part, int times) { return part.repeat(times); }

    /** In a new office, so that no run of TEXTS is too long for one. */
    private static void verdict(String text, int want) {
        x = new Office();
        Due.is("law of " + text, want, x.law(text));
    }

    // ---- the TEXT and its size ----

    private static void size() {
        start("THE LAW: a TEXT of at most 160 bytes");
        String longest = "n(" + some("l=0|", 38) + "l+1=0)";
        Due.is("160 bytes are made", 160, longest.length());
        Due.is("160 bytes", 1, x.law(longest));
        x.feed(longest + some("?", 20));
        Due.is("161 bytes", -1, x.law(161));
        Due.is("the tape stays", 180, x.count(3));
        Due.is("0 bytes", -1, x.law(0));
        Due.is("-1 byte", -1, x.law(-1));
        Due.is("181 bytes of 180", -1, x.law(181));
        Due.is("the tape stays", 180, x.count(3));
        Due.is("the first 160 of them", 1, x.law(160));
        Due.is("the tape is empty", 0, x.count(3));
        Due.is("a byte of an empty tape", -1, x.law(1));
        x.feed("n(l=0)");
        Due.is("21 bytes of 20", -1, x.law(21));
        Due.is("the tape stays", 20, x.count(3));
        Due.is("20 bytes of 20, the seventh is wrong", -1006, x.law(20));
        Due.is("the tape is empty", 0, x.count(3));
        Due.is("1 byte", -1001, x.law("n"));
        Due.is("the shortest TEXT", 1, x.law("n(1=1)"));
        String far = "n(" + some("l=0|", 38) + "l+1=0(";
        Due.is("a FAULT at place 159", -1159, x.law(far));
        String open = "n(" + some("l=0|", 39) + "l=";
        Due.is("160 bytes that do not end", -1160, x.law(open));
    }

    private static void none() {
        start("(none at first)");
        x.blank("az");
        Due.is("CLAUSES", 0, x.count(2));
        for (int clerk = 0; clerk < 8; clerk++) {
            Due.is("all MAY", 1, x.may(0, 1, clerk, 0));
            Due.is("at 1", 1, x.may(0, 0, clerk, 1));
        }
        x.law("n(l");
        Due.is("none behind a FAULT", 0, x.count(2));
        Due.is("all MAY", 1, x.may(0, 1, 0, 0));
    }

    private static void stays() {
        start("a FAULT: -1000 times its number, less its place (the TEXT before stays)");
        String[] faults = {"x", "n(", "p5(l=0", "n(l=123456)", "n(((((((l=0)))))))", some("n(l=1);", 12) + "n(l=0)", "n(l=0);n(", "n(l=0);p1(l=1);x"};
        int[] verdicts = {-1000, -1002, -1006, -2009, -5007, -4084, -1009, -1015};
        x.blank("abc");
        x.law("n(l=1);p7(l=2)");
        for (int k = 0; k < faults.length; k++) {
            Due.is(faults[k], verdicts[k], x.law(faults[k]));
            Due.is("the tape is empty", 0, x.count(3));
            Due.is("two CLAUSES", 2, x.count(2));
            Due.is("a MAY be struck", 1, x.may(0, 0, 0, 0));
            Due.is("b may not", 0, x.may(0, 1, 0, 0));
            Due.is("a at 1", 1, x.may(0, 0, 0, 1));
            Due.is("c at 7", 7, x.may(0, 2, 0, 1));
        }
        Due.is("in place of the one before", 1, x.law("n(l=0)"));
        Due.is("one CLAUSE", 1, x.count(2));
        Due.is("a may not", 0, x.may(0, 0, 0, 0));
        Due.is("b MAY", 1, x.may(0, 1, 0, 0));
        Due.is("c at 1", 1, x.may(0, 2, 0, 1));
    }

    // ---- FAULT 1 ----

    private static final String FACTOR = "[0123456789liwmokdbfg";
    private static final String PIECE = "!(" + FACTOR;
    private static final String SUM = "+-*/%";
    private static final String DIGITS = "0123456789";

    /** What stands ahead, and all signs that can stand there. */
    private static final String[][] AHEAD = {
        {"", "np"},
        {"n", "("},
        {"p", FACTOR},
        {"p1", SUM + "(" + DIGITS},
        {"p12345", SUM + "(" + DIGITS},
        {"pl", SUM + "("},
        {"p1+", FACTOR},
        {"p1*", FACTOR},
        {"p[", FACTOR},
        {"p[1", SUM + "]" + DIGITS},
        {"p[l", SUM + "]"},
        {"p[1]", SUM + "("},
        {"p[[1]", SUM + "]"},
        {"p1(", PIECE},
        {"n(", PIECE},
        {"n(!", PIECE},
        {"n((", PIECE},
        {"n(l", SUM + "<>="},
        {"n(9", SUM + "<>=" + DIGITS},
        {"n([9", SUM + "]" + DIGITS},
        {"n([9]", SUM + "<>="},
        {"n(l+", FACTOR},
        {"n(l%", FACTOR},
        {"n(l<", FACTOR},
        {"n(l>", FACTOR},
        {"n(l=", FACTOR},
        {"n(l=l", SUM + "&|)"},
        {"n(l=9", SUM + "&|)" + DIGITS},
        {"n(l=[l", SUM + "]"},
        {"n(l=[l]", SUM + "&|)"},
        {"n(!l=l", SUM + "&|)"},
        {"n(l=l&", PIECE},
        {"n(l=l|", PIECE},
        {"n((l=l)", "&|)"},
        {"n(!(l=l)", "&|)"},
        {"n(l=l)", ";"},
        {"n(l=l);", "np"},
    };

    private static void wrongSigns() {
        start("1 what can't stand there");
        for (String[] row : AHEAD) {
            for (int sign = 0; sign < 256; sign++) {
                if (sign % 128 == 0) x = new Office();
                int got = x.law(row[0] + (char) sign);
                int here = -1000 - row[0].length();
                boolean stands = row[1].indexOf((char) sign) >= 0;
                if (stands) Due.is("byte " + sign + " stands behind " + row[0], false, got == here);
                else Due.is("byte " + sign + " behind " + row[0], here, got);
            }
        }
    }

    private static void ends() {
        start("1 what can't stand there (the end, too)");
        String text = "p[l+1]*2(!i<3&(w>4|m=5));n(12=o-k/d%b)";
        Due.is("it is fine", 2, x.law(text));
        for (int n = 1; n < text.length(); n++) {
            boolean whole = text.charAt(n) == ';';
            Due.is("the first " + n + " bytes", whole ? 1 : -1000 - n, x.law(text.substring(0, n)));
        }
        verdict(";n(l=0)", -1000);
        verdict("n(l=0)n(l=1)", -1006);
        verdict("n(l=0):n(l=1)", -1006);
        verdict("n(l=0)<n(l=1)", -1006);
        verdict("n(l=0);", -1007);
        verdict("n(l=0));", -1006);
        verdict("n(l=0];", -1005);
        verdict("p[1)(l=0)", -1003);
        verdict("p1](l=0)", -1002);
        verdict("n(l=0|)", -1006);
        verdict("n(|l=0)", -1002);
        verdict("n(&l=0)", -1002);
        verdict("n(l=0||l=1)", -1006);
        verdict("n(l==0)", -1004);
        verdict("n(l<=0)", -1004);
        verdict("n(l<i<w)", -1005);
        verdict("n((l)<i)", -1004);
        verdict("n(l!=0)", -1003);
        verdict("n(![l=0])", -1005);
        verdict("n(!)", -1003);
        verdict("n(ll=0)", -1003);
        verdict("n(2l=0)", -1003);
        verdict("n(l2=0)", -1003);
        verdict("n([1]2=0)", -1005);
        verdict("n([1][2]=0)", -1005);
        verdict("n([]=0)", -1003);
        verdict("n()", -1002);
        verdict("n(())", -1003);
        verdict("nl(l=0)", -1001);
        verdict("p(l=0)", -1001);
        verdict("p-1(l=0)", -1001);
        verdict("n(l=-1)", -1004);
        verdict("n(n=0)", -1002);
        verdict("n(p=0)", -1002);
    }

    private static void firstBytes() {
        start("THE LAW by the first n bytes of the tape");
        String text = "p[12345+1]*2(!i<33&(w>4|m=55));n(12=o-k/d%b)";
        for (int n = 1; n <= text.length(); n++) {
            x.feed(text);
            boolean whole = n == text.length() || text.charAt(n) == ';';
            int got = x.law(n);
            if (whole) Due.is("the first " + n + " bytes", n == text.length() ? 2 : 1, got);
            else Due.is("the first " + n + " bytes", -1000 - n, got);
        }
        x.blank("a");
        x.feed("p1(1=1)p1(1=1)");
        Due.is("what stands behind them is not asked", 1, x.law(7));
        x.feed("p12345(1=1)");
        Due.is("a digit behind the first six", -1006, x.law(6));
        x.feed("p123456(1=1)");
        Due.is("a sixth digit behind the first six", -1006, x.law(6));
        Due.is("the PRICE of the one before", 1, x.may(0, 0, 0, 1));
    }

    private static void noBlanks() {
        start("a TEXT of at most 160 bytes, no blanks");
        String text = "p[l+12]*2(!i<3&(w>4|m=5));n(l=0)";
        for (int at = 0; at < text.length(); at++) {
            int got = x.law(text.substring(0, at) + " " + text.substring(at));
            Due.is("a blank at " + at, -1000 - at, got);
        }
        Due.is("a blank behind all", -1000 - text.length(), x.law(text + " "));
        Due.is("a byte 0", -1000, x.law("" + (char) 0 + text));
        Due.is("a byte 10", -1000 - text.length(), x.law(text + "\n"));
    }

    // ---- FAULTS 2, 4, 5 ----

    private static void digits() {
        start("2 a sixth digit, at it");
        verdict("n(l=99999)", 1);
        verdict("n(l=999999)", -2009);
        verdict("n(l=00000)", 1);
        verdict("n(l=000000)", -2009);
        verdict("n(00001=l)", 1);
        verdict("n(000001=l)", -2007);
        verdict("p12345(l=0)", 1);
        verdict("p123456(l=0)", -2006);
        verdict("p123456", -2006);
        verdict("p12345", -1006);
        verdict("p12345x", -1006);
        verdict("p1234567x", -2006);
        verdict("p[12345](l=0)", 1);
        verdict("p[123456](l=0)", -2007);
        verdict("p12345+123456(l=0)", -2012);
        verdict("p12345*12345/12345(l=12345)", 1);
        verdict("n(l=0);n(l=123456)", -2016);
        verdict("n(l=0);x;n(l=123456)", -1007);
        verdict("n(l=0);n(l=123456);x", -2016);
    }

    private static void clauses() {
        start("4 a 13th CLAUSE, at its letter (if that can stand there)");
        String twelve = some("n(l=0);", 11) + "n(l=0)";
        verdict(twelve, 12);
        verdict(some("n(l=0);", 10) + "n(l=0)", 11);
        verdict(some("p1(l=0);", 11) + "p1(l=0)", 12);
        verdict(twelve + ";n", -4084);
        verdict(twelve + ";p", -4084);
        verdict(twelve + ";n(l=0)", -4084);
        verdict(twelve + ";nx", -4084);
        verdict(twelve + ";p123456(", -4084);
        verdict(twelve + ";", -1084);
        verdict(twelve + ";;", -1084);
        verdict(twelve + ";(", -1084);
        verdict(twelve + ";N", -1084);
        verdict(twelve + "n", -1083);
        verdict(some("n(l=0);", 11) + "n(l=x);n(l=0)", -1081);
        verdict(some("n(l=0);", 11) + "n(l=123456);n(l=0)", -2086);
        verdict(some("p1(l=0);", 12) + "p1(l=0)", -4096);
        start("CLAUSES (12 at most): the twelfth counts as the first does");
        x.blank("abcdefghijklmn");
        StringBuilder s = new StringBuilder();
        for (int k = 0; k < 12; k++) s.append(k == 0 ? "" : ";").append("n(l=").append(k).append(')');
        Due.is("twelve n", 12, x.law(s.toString()));
        for (int k = 0; k < 14; k++) Due.is("LETTER " + k, k < 12 ? 0 : 1, x.may(0, k, 0, 0));
        s = new StringBuilder();
        for (int k = 0; k < 12; k++) s.append(k == 0 ? "" : ";").append('p').append(k + 20).append("(l=").append(k).append(')');
        Due.is("twelve p", 12, x.law(s.toString()));
        for (int k = 0; k < 14; k++) Due.is("PRICE of LETTER " + k, k < 12 ? 20 + k : 1, x.may(0, k, 0, 1));
    }

    private static void open() {
        start("5 a seventh of ( [ ! that are open in one another, at it");
        verdict("n((((((l=0))))))", 1);
        verdict("n(((((((l=0)))))))", -5007);
        verdict("n(((((((", -5007);
        verdict("n((((((", -1007);
        verdict("n(!!!!!l=0)", 1);
        verdict("n(!!!!!!l=0)", -5007);
        verdict("n(!!!!!!x", -5007);
        verdict("n([[[[[l]]]]]=0)", 1);
        verdict("n([[[[[[l]]]]]]=0)", -5007);
        verdict("n(0=[[[[[l]]]]])", 1);
        verdict("n(0=[[[[[[l]]]]]])", -5009);
        verdict("n(!(!([l]=0)))", 1);
        verdict("n(!(!([[l]]=0)))", -5007);
        verdict("n(!(!(!l=0)))", 1);
        verdict("n(!(!(!(l=0))))", -5007);
        verdict("n(!(!(!!l=0)))", -5007);
        verdict("n((((((!l=0))))))", -5007);
        verdict("n((((((l=[0]))))))", -5009);
        verdict("n((((((l+[0]=0))))))", -5009);
        start("5: what is closed is not open any more");
        verdict("n((((((l=0)))))&(((((l=0))))))", 1);
        verdict("n((((((l=0)))))|(((((l=0))))))", 1);
        verdict("n((((((l=0)))))&((((((l=0)))))))", -5021);
        verdict("n([[[[[l]]]]]+[[[[[l]]]]]=[[[[[l]]]]])", 1);
        verdict("n([[[[[l]]]]]+[[[[[[l]]]]]]=0)", -5019);
        verdict("n((l=0)&(l=0)&(l=0)&(l=0)&(l=0)&(l=0)&(l=0))", 1);
        verdict("n((((((l=0)))))&[[[[[l]]]]]=0)", 1);
        verdict("n((((((l=0)))))&[[[[[[l]]]]]]=0)", -5021);
        verdict("n(((((l=0))))&!!!!!l=0);n(((((((", -5031);
        verdict("n((((((l=0))))));n((((((l=0))))))", 1 + 1);
        start("5: the ( of the CLAUSE counts");
        verdict("n(!!!!!(l=0))", -5007);
        verdict("n(!!!!(l=0))", 1);
        verdict("n(!!!!((l=0)))", -5007);
        start("5: a ! is open till its PIECE ends");
        verdict("n(!!!!!l=[0])", -5009);
        verdict("n(!!!!l=[0])", 1);
        verdict("n(!!!![l]=0)", 1);
        verdict("n(!!!!!l=0&[[[[[l]]]]]=0)", 1);
        verdict("n(!!!!!l=0&!!!!!l=0)", 1);
        verdict("n(!!!!!l=0|!!!!!l=0)", 1);
        verdict("n(!!!!!l=0|!!!!!!l=0)", -5016);
        verdict("n(!(l=0)&!(l=0)&!(l=0)&!(l=0)&!(((l=0))))", 1);
        verdict("n(!(!l=0)&(((((l=0))))))", 1);
        verdict("n(!(!l=0)&((((((l=0)))))))", -5015);
        verdict("n(!(!l=0&(((l=0)))))", 1);
        verdict("n(!(!l=0&((((l=0))))))", -5012);
        start("5: the E of a CLAUSE stands ahead of it");
        verdict("p[[[[[[l]]]]]](l=0)", 1);
        verdict("p[[[[[[[l]]]]]]](l=0)", -5007);
        verdict("p[[[[[[l]]]]]]((((((l=0))))))", 1);
        verdict("p[[[[[[l]]]]]](((((((l=0)))))))", -5020);
        verdict("p[[[[[[l]]]]]]([[[[[l]]]]]=0)", 1);
        verdict("p1+[[[[[[l]]]]]]*[[[[[[[l]]]]]]](l=0)", -5023);
        start("5: what can't stand there is a 1");
        verdict("n((((((l(0))))))", -1008);
        verdict("n((((((l[0]=0))))))", -1008);
        verdict("n((((((l!=0))))))", -1008);
        verdict("n((((((l=(0)))))))", -1009);
        verdict("n((((((l=!0))))))", -1009);
        verdict("p[[[[[[!", -1007);
        verdict("p[[[[[[(", -1007);
    }

    private static void firstFault() {
        start("FAULTS, the first from the left");
        verdict("n(l=123456&((((((l=0", -2009);
        verdict("n((((((([123456", -5007);
        verdict("x(((((((", -1000);
        verdict("n(((((()))))", -1007);
        verdict("n((((((12345(", -1012);
        verdict("n((((((123456", -2012);
        verdict(some("n(l=0);", 11) + "n(((((((l=0);n(l=0)", -5000 - 84);
        verdict(some("n(l=0);", 11) + "n(l=0);p123456(((((((", -4084);
    }

    // ---- what the names stand for ----

    /** The PRICE that an E gives, if that is 0 to 99. */
    private static int price(int b, String e, int place, int clerk) {
        if (x.calls() > 480) Due.fault("too many calls");
        int clauses = x.law("p" + e + "(1=1)");
        return clauses == 1 ? x.may(b, place, clerk, 1) : -9;
    }

    private static void names() {
        start("a letter: l the LETTER (0 to 25), i its PLACE, w its own number, m how many LETTERS are LEFT");
        x.blank("abcdefghijklmnopqrstuvwxyzabcdefghijklmz");
        Due.is("l of a", 0, price(0, "l", 0, 0));
        Due.is("l of z", 25, price(0, "l", 25, 0));
        Due.is("i of the first", 0, price(0, "i", 0, 0));
        Due.is("i of the last", 39, price(0, "i", 39, 0));
        Due.is("w of the first", 0, price(0, "w", 0, 0));
        Due.is("w of the last", 39, price(0, "w", 39, 0));
        Due.is("m", 40, price(0, "m", 7, 0));
        x.strike(0, 0, 9, 0);
        x.strike(0, 1, 9, 0);
        Due.is("l behind STROKES", 25, price(0, "l", 7, 0));
        Due.is("i behind STROKES", 7, price(0, "i", 7, 0));
        Due.is("w behind STROKES", 25, price(0, "w", 7, 0));
        Due.is("m behind STROKES", 22, price(0, "m", 7, 0));
        x.blank("q");
        Due.is("m of one LETTER", 1, price(1, "m", 0, 0));
        Due.sentence("o how often this LETTER is LEFT");
        x.blank(some("a", 40));
        x.blank("abababa");
        Due.is("forty times", 40, price(2, "o", 39, 0));
        Due.is("once", 1, price(1, "o", 0, 0));
        Due.is("four times", 4, price(3, "o", 2, 0));
        Due.is("thrice", 3, price(3, "o", 1, 0));
        x.strike(3, 0, 2, 0);
        Due.is("STRUCK ones do not count", 3, price(3, "o", 0, 0));
        Due.is("STRUCK ones do not count", 2, price(3, "o", 1, 0));
        Due.sentence("k the CLERK, d the DAY, b the BLANK");
        for (int k = 0; k < 8; k++) Due.is("k", k, price(0, "k", 0, k));
        Due.is("d at first", 0, price(0, "d", 0, 0));
        x.day(1);
        Due.is("d", 1, price(0, "d", 0, 0));
        x.day(999);
        Due.is("d at last", 9, price(0, "d/100", 0, 0));
        Due.is("d at last", 99, price(0, "d%100", 0, 0));
        for (int b = 4; b < 8; b++) x.blank("a");
        for (int b = 0; b < 8; b++) Due.is("b", b, price(b, "b", 0, 0));
    }

    private static void neighbours() {
        start("f whether the one ahead of it (as written) is STRUCK (1, 0; of number 0: 1), g whether the one behind it is (likewise)");
        x.blank("abcde");
        x.law("pf*10+g(1=1)");
        int[] fresh = {10, 0, 0, 0, 1};
        for (int place = 0; place < 5; place++) Due.is("PLACE " + place, fresh[place], x.may(0, place, 0, 1));
        x.strike(0, 2, 1, 0);
        int[] gap = {10, 1, 10, 1};
        for (int place = 0; place < 4; place++) Due.is("PLACE " + place + " around a gap", gap[place], x.may(0, place, 0, 1));
        x.strike(0, 0, 1, 0);
        int[] more = {11, 10, 1};
        for (int place = 0; place < 3; place++) Due.is("PLACE " + place + " without a", more[place], x.may(0, place, 0, 1));
        x.strike(0, 2, 1, 0);
        int[] last = {11, 11};
        for (int place = 0; place < 2; place++) Due.is("PLACE " + place + " without e", last[place], x.may(0, place, 0, 1));
        x.back(0);
        x.back(0);
        x.back(0);
        for (int place = 0; place < 5; place++) Due.is("PLACE " + place + " again", fresh[place], x.may(0, place, 0, 1));
        x.blank("q");
        Due.is("of one LETTER", 11, x.may(1, 0, 0, 1));
        x.blank(some("a", 40));
        Due.is("f of number 0 of 40", 10, x.may(2, 0, 0, 1));
        Due.is("g of number 39 of 40", 1, x.may(2, 39, 0, 1));
        Due.is("number 38 of 40", 0, x.may(2, 38, 0, 1));
    }

    private static void aheadOfTheStroke() {
        start("(All of the BLANK as it is ahead of the STROKE.)");
        x.blank("aaaaab");
        x.law("pi+10*f(1=1)");
        Due.is("i and f", 10 + 1 + 2, x.strike(0, 0, 3, 0));
        x.back(0);
        x.law("pm+10*g(1=1)");
        Due.is("m and g", 6 + 6 + 6 + 10, x.strike(0, 3, 3, 0));
        x.back(0);
        x.law("po(1=1)");
        Due.is("o", 5 + 5 + 1, x.strike(0, 3, 3, 0));
        x.back(0);
        x.law("n(o<5&l=0);n(f=1&i=1);n(m<6)");
        Due.is("what would be forbidden amid the STROKE is not", 3, x.strike(0, 0, 3, 0));
        Due.is("it is behind it", -2, x.strike(0, 0, 1, 0));
    }

    // ---- what is reckoned ----

    private static void bounds() {
        start("its PRICE (0 to 99; of the first CLAUSE whose C holds; none: 1; beyond its bounds the bound)");
        x.blank("ab");
        Due.is("0", 0, price(0, "0", 0, 0));
        Due.is("1", 1, price(0, "1", 0, 0));
        Due.is("-1", 0, price(0, "0-1", 0, 0));
        Due.is("98", 98, price(0, "98", 0, 0));
        Due.is("99", 99, price(0, "99", 0, 0));
        Due.is("100", 99, price(0, "100", 0, 0));
        Due.is("99999", 99, price(0, "99999", 0, 0));
        Due.is("-99999", 0, price(0, "0-99999", 0, 0));
        Due.is("the greatest int", 99, price(0, "32767*65536+65535", 0, 0));
        Due.is("the least int", 0, price(0, "32768*65536", 0, 0));
        x.law("p5(l=0);p6(l=0);n(l=5)");
        Due.is("the first", 5, x.may(0, 0, 0, 1));
        Due.is("none", 1, x.may(0, 1, 0, 1));
        x.law("n(l=0);p6(l=1);p7(1=1);p8(l=0)");
        Due.is("n is no PRICE", 7, x.may(0, 0, 0, 1));
        Due.is("p forbids nothing", 1, x.may(0, 1, 0, 0));
        Due.is("the first of two that hold", 6, x.may(0, 1, 0, 1));
        Due.is("what may not be struck", 0, x.may(0, 0, 0, 0));
        x.law("p0(l=0);p9(1=1)");
        Due.is("a PRICE of 0 is one", 0, x.may(0, 0, 0, 1));
        x.law("p0-5(l=0);p9(1=1)");
        Due.is("a PRICE below 0 is one", 0, x.may(0, 0, 0, 1));
    }

    /** 5 if a C holds, 1 if not. */
    private static void holds(String c, boolean want) {
        if (x.calls() > 480) { x = new Office(); x.blank("ab"); }
        int clauses = x.law("p5(" + c + ");n(" + c + ")");
        Due.is(c + " is fine", 2, clauses);
        Due.is(c + " as a PRICE", want ? 5 : 1, x.may(0, 0, 0, 1));
        Due.is(c + " as a ban", want ? 0 : 1, x.may(0, 0, 0, 0));
    }

    private static void reckoned(String e, int want) {
        holds(e + "=" + (want < 0 ? "0-" + -want : want), true);
    }

    private static void machine() {
        start("All is reckoned with 32 bits, as the machine does");
        x.blank("ab");
        reckoned("7/2", 3);
        reckoned("[0-7]/2", -3);
        reckoned("7/[0-2]", -3);
        reckoned("[0-7]/[0-2]", 3);
        reckoned("7%2", 1);
        reckoned("[0-7]%2", -1);
        reckoned("7%[0-2]", 1);
        reckoned("[0-7]%[0-2]", -1);
        reckoned("65536*65536", 0);
        reckoned("65536*32768/65536", -32768);
        reckoned("99999*99999%99999", 79507);
        reckoned("46341*46341/46341", -46340);
        reckoned("00012", 12);
        reckoned("00000", 0);
        reckoned("99999", 99999);
        holds("32767*65536+65535>0", true);
        holds("32767*65536+65535+1<0", true);
        holds("32768*65536<0", true);
        holds("32768*65536-1>0", true);
        holds("32768*65536=32768*65536/[0-1]", true);
        holds("32768*65536%[0-1]=0", true);
        holds("0-32768*65536=32768*65536", true);
        holds("32768*65536<32767*65536+65535", true);
        holds("32767*65536+65535>32768*65536", true);
        holds("32767*65536+65535<32768*65536", false);
        holds("32768*65536<1", true);
        holds("1<32768*65536", false);
        holds("65535*65535=0-65536*2+1", true);
        Due.sentence("TERMS with + or - between two; FACTORS with one of * / % between two; from the left on");
        reckoned("10-4-3", 3);
        reckoned("10-4+3", 9);
        reckoned("10-[4+3]", 3);
        reckoned("100/10/5", 2);
        reckoned("100/[10/5]", 50);
        reckoned("7*5/2", 17);
        reckoned("7/2*5", 15);
        reckoned("17%10*2", 14);
        reckoned("2*17%10", 4);
        reckoned("2+3*4-5", 9);
        reckoned("[2+3]*4-5", 15);
        reckoned("2*3+4*5", 26);
        reckoned("1-1*2", -1);
    }

    private static void comparisons() {
        start("E, one of < > =, and E");
        x.blank("ab");
        holds("1<2", true);
        holds("2<2", false);
        holds("3<2", false);
        holds("1>2", false);
        holds("2>2", false);
        holds("3>2", true);
        holds("1=2", false);
        holds("2=2", true);
        holds("3=2", false);
        Due.sentence("PARTS with a | between two, one of which must hold; PIECES with an & between two, all of which must");
        String[] value = {"1=2", "1=1"};
        for (int k = 0; k < 8; k++) {
            String a = value[k >> 2 & 1];
            String b = value[k >> 1 & 1];
            String c = value[k & 1];
            boolean p = (k >> 2 & 1) == 1;
            boolean q = (k >> 1 & 1) == 1;
            boolean r = (k & 1) == 1;
            holds(a + "|" + b + "&" + c, p || q && r);
            holds(a + "&" + b + "|" + c, p && q || r);
            holds("(" + a + "|" + b + ")&" + c, (p || q) && r);
            holds(a + "&(" + b + "|" + c + ")", p && (q || r));
            holds("!" + a + "&" + b + "|!" + c, !p && q || !r);
            holds("!(" + a + "&" + b + ")|" + c, !(p && q) || r);
            holds("!!" + a + "&!(" + b + "|" + c + ")", p && !(q || r));
            holds(a + "|" + b + "|" + c, p || q || r);
            holds(a + "&" + b + "&" + c, p && q && r);
        }
    }

    private static void refusedE() {
        start("what is divided by 0 is REFUSED: then .. an E is 0");
        x.blank("ab");
        Due.is("1/0", 0, price(0, "1/0", 0, 0));
        Due.is("1%0", 0, price(0, "1%0", 0, 0));
        Due.is("0/0", 0, price(0, "0/0", 0, 0));
        Due.is("5+1/0", 0, price(0, "5+1/0", 0, 0));
        Due.is("1/0+5", 0, price(0, "1/0+5", 0, 0));
        Due.is("5+[1/0]", 0, price(0, "5+[1/0]", 0, 0));
        Due.is("[1%0]+5", 0, price(0, "[1%0]+5", 0, 0));
        Due.is("0*[1/0]+5", 0, price(0, "0*[1/0]+5", 0, 0));
        Due.is("5/[3-3]", 0, price(0, "5/[3-3]", 0, 0));
        Due.is("5/i at PLACE 0", 0, price(0, "5/i", 0, 0));
        Due.is("5/i at PLACE 1", 5, price(0, "5/i", 1, 0));
        Due.is("5%l of a", 0, price(0, "3+5%l", 0, 0));
        Due.is("5%l of b", 3, price(0, "3+5%l", 1, 0));
        Due.is("5/[65536*65536]", 0, price(0, "5/[65536*65536]", 0, 0));
        x.law("p1/0(l=0);p9(1=1)");
        Due.is("it is the PRICE, the next CLAUSE is not asked", 0, x.may(0, 0, 0, 1));
        Due.is("of another LETTER the next is", 9, x.may(0, 1, 0, 1));
        Due.is("what is REFUSED for a PRICE forbids nothing", 1, x.may(0, 0, 0, 0));
        Due.is("a STROKE at 0 and 9", 9, x.strike(0, 0, 2, 0));
    }

    private static void refusedC() {
        start("what is divided by 0 is REFUSED: then a C does not hold");
        x.blank("ab");
        holds("1/0=0", false);
        holds("0/0=0", false);
        holds("1%0=0", false);
        holds("0=1/0", false);
        holds("0=1%0", false);
        holds("1/0<1", false);
        holds("0-1<1/0", false);
        holds("1=1+0*[1/0]", false);
        holds("5/i=5", false);
        holds("!1/0=0", false);
        holds("!(1/0=0)", false);
        holds("!!1/0=0", false);
        holds("1/0=0|1=1", false);
        holds("1/0=0&1=1", false);
        holds("(1/0=0)|1=1", false);
        holds("1=1&(1/0=0|1=1)", false);
        holds("1=2|1/0=0|1=1", false);
        Due.sentence("a C that does not hold leaves the other CLAUSES as they are");
        x.law("p5(1/0=0);p6(1=1)");
        Due.is("the next PRICE", 6, x.may(0, 0, 0, 1));
        x.law("n(1/0=0);n(l=0)");
        Due.is("the next ban, a", 0, x.may(0, 0, 0, 0));
        Due.is("the next ban, b", 1, x.may(0, 1, 0, 0));
        x.law("n(l=0);n(1/0=0)");
        Due.is("the ban before, a", 0, x.may(0, 0, 0, 0));
        Due.is("the ban before, b", 1, x.may(0, 1, 0, 0));
        x.law("p5(6/i=6)");
        Due.is("at PLACE 0", 1, x.may(0, 0, 0, 1));
        Due.is("at PLACE 1", 5, x.may(0, 1, 0, 1));
    }

    private static void refusedOften() {
        start("what is REFUSED leaves nothing behind");
        x.blank(some("a", 40));
        x.law("n(1+2*[3+4*[5/0]]=1|1=1);p1+2*[3+4*[5%i]](1=1);p3(1=1)");
        for (int place = 0; place < 40; place++) {
            Due.is("MAY at " + place, 1, x.may(0, place, 0, 0));
            Due.is("PRICE at " + place, place == 0 ? 0 : Math.min(99, 7 + 8 * (5 % place)), x.may(0, place, 0, 1));
        }
        Due.is("all of the end", 9 * (7 + 8 * 5), x.strike(0, 31, 9, 0));
        x.law("p1+2*[1+2*[1+2*[1+2*[1+2*[1+0*[1+1]]]]]](1=1)");
        Due.is("a deep E behind it", 63, x.may(0, 0, 0, 1));
    }

    private static void asMuchAsMatters() {
        start("Of a C as much is asked, from the left, as matters");
        x.blank("ab");
        holds("1=1|1/0=0", true);
        holds("1=1|1=2|1/0=0", true);
        holds("1=2|1=1|1/0=0", true);
        holds("1=2&1/0=0", false);
        holds("!(1=2&1/0=0)", true);
        holds("!(1=1|1/0=0)", false);
        holds("1=2&1/0=0|1=1", true);
        holds("1=2&1=1&1/0=0|1=1", true);
        holds("1=1&1=2&1/0=0|1=1", true);
        holds("(1=1|1/0=0)&1=1", true);
        holds("(1=1|1/0=0)&1/0=0", false);
        holds("!(1=1&(1=2&1/0=0))", true);
        holds("1=1|1/0=0&1/0=0", true);
        holds("1=1&1=1|1/0=0", true);
        holds("!1=2|1/0=0", true);
        holds("!1=1&1/0=0|1=1", true);
        holds("((1=1|1/0=0)|1/0=0)|1/0=0", true);
        holds("(1=2|1=1)&(1=1|1/0=0)", true);
        holds("1=2&(1/0=0|1=1)|1=1&(1=1|1/0=0)", true);
    }

    private static void deepest() {
        start("as deep as six open ones, with as much as can wait");
        x.blank("ab");
        Due.is("E", 63, price(0, "1+2*[1+2*[1+2*[1+2*[1+2*[1+0*[1+1]]]]]]", 0, 0));
        holds("1=2|(1=1&(1=2|(1=1&(1=2|1+2*[1+2*1]=7))))", true);
        holds("1=2|(1=1&(1=2|(1=1&(1=2|1+2*[1+2*1]=8))))", false);
        holds("1+2*[1+2*[1+2*[1+2*[1+2*[1+1]]]]]=95", true);
        holds("95=1+2*[1+2*[1+2*[1+2*[1+2*[1+1]]]]]", true);
        String sum = "1";
        for (int k = 0; k < 70; k++) sum += "+1";
        Due.is("a long E", 71, price(0, sum, 0, 0));
        String either = "1=2";
        for (int k = 0; k < 30; k++) either += "|1=2";
        Due.is("a long C", 1, x.law("p5(" + either + "|1=1)"));
        Due.is("its last PART", 5, x.may(0, 0, 0, 1));
    }

    public static void main(String[] args) {
        size();
        none();
        stays();
        wrongSigns();
        ends();
        firstBytes();
        noBlanks();
        digits();
        clauses();
        open();
        firstFault();
        names();
        neighbours();
        aheadOfTheStroke();
        bounds();
        machine();
        comparisons();
        refusedE();
        refusedC();
        refusedOften();
        asMuchAsMatters();
        deepest();
        Due.end();
    }
}

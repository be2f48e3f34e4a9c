/**
 * Random runs of calls on one object, each answer held against a slow office that is written straight from the document.
 * An argument tells how many runs.
 */
public final class OracleTest {
    private static Dice dice;
    private static Twins x;

    private static void start(String kind, int run, int tame) {
        Due.sentence(kind + ", run " + run);
        dice = new Dice(run, tame);
        x = new Twins(dice);
    }

    private static int someBlank() { return dice.about(0, x.slow.count(0) - 1); }

    private static int somePlace(int b) { return dice.about(0, x.slow.count(10 + b)); }

    private static int someDeeds(int most) {
        int bits = 0;
        for (int i = 0; i < 8; i++) if ((x.slow.count(1) >> i & 1) == 1 && Integer.bitCount(bits) < most && dice.oneOf(3)) bits |= 1 << i;
        if (dice.oneOf(60)) return dice.wild();
        return dice.oneOf(20) ? bits | 1 << dice.any(8) : bits;
    }

    // ---- calls ----

    private static void tell() {
        int kind = dice.any(9);
        if (kind < 2) {
            String s = dice.spoilt(dice.letters(1 + dice.any(9), 1 + dice.any(3)));
            x.feed(s);
            x.blank(dice.oneOf(20) ? dice.about(1, 40) : s.length());
        } else if (kind < 6) {
            String s = dice.spoilt(dice.letters(1 + dice.any(dice.oneOf(3) ? 5 : 2), 1 + dice.any(3)));
            x.feed(s);
            x.deed(dice.about(0, 7), dice.oneOf(20) ? s.length() + 1 : s.length());
        } else if (kind < 8) {
            String s = dice.law();
            x.feed(s);
            x.law(dice.oneOf(20) ? dice.about(1, 160) : s.length());
        } else if (kind == 8) {
            x.day(dice.about(0, dice.oneOf(10) ? 999 : 20));
        } else {
            x.seed(dice.about(0, 65535));
        }
    }

    private static void strike() {
        int b = someBlank();
        int kind = dice.any(11);
        if (kind < 4) x.strike(b, somePlace(b), dice.oneOf(6) ? dice.about(1, 9) : 1 + dice.any(1), dice.about(0, 7));
        else if (kind < 7) x.back(b);
        else if (kind < 9) x.done(b, dice.about(0, 7), dice.about(0, 7));
        else if (kind < 10) x.draw(b, dice.oneOf(5) ? dice.about(1, 40) : 1 + dice.any(3));
        else check(b);
    }

    private static void check(int b) {
        int size = Math.max(0, x.slow.count(10 + b));
        StringBuilder s = new StringBuilder();
        for (int place = 0; place < size; place++) s.append("\0\0\0").append((char) (x.slow.left(b, place, 0) + (dice.oneOf(30) ? 1 : 0)));
        x.feed(s.toString());
        int n = Math.max(0, size + (dice.oneOf(4) ? dice.any(2) - 1 : 0));
        x.check(b, dice.oneOf(20) ? dice.about(0, 10) : n);
    }

    private static void ask() {
        int b = someBlank();
        int i = dice.about(0, 7);
        int clerk = dice.about(0, 7);
        int w = dice.about(1, dice.oneOf(3) ? 9 : 3);
        x.left(b, somePlace(b), dice.about(0, 1));
        x.may(b, somePlace(b), clerk, dice.about(0, 1));
        x.book(dice.about(0, x.slow.count(5) - 1), dice.oneOf(2) ? dice.about(0, 5) : dice.about(9, 19));
        x.ways(b, i);
        x.cheapest(b, i, clerk, dice.oneOf(2) ? -1 : dice.about(-1, 5));
        x.strokes(b, i, w);
        x.even(b, i, w);
        x.forged(i);
        x.chain(b, dice.oneOf(3) ? -1 : dice.about(-1, 6));
        x.count(dice.about(-1, 29));
    }

    private static void askDeeds(int most) {
        int b = someBlank();
        int bits = someDeeds(most);
        x.hidden(bits, dice.about(-1, 7));
        x.shortest(bits, dice.about(-1, 7));
        x.shortestMany(bits);
        x.bound(bits);
        x.spare(b, bits);
        x.dayEnd(bits, dice.about(-1, 11));
        x.worth(b, bits, dice.about(0, 1));
        x.family(b, bits, dice.about(1, dice.oneOf(3) ? 9 : 3), dice.about(-1, 8));
    }

    // ---- runs ----

    /** Little is told at first, much of it wrong: whatever comes, in any order. */
    private static void anyRun(int run) {
        start("any calls", run, 40);
        for (int k = 0; k < 12; k++) tell();
        for (int k = 0; k < 60 && x.callsLeft() > 80; k++) {
            int kind = dice.any(9);
            if (kind < 2) tell();
            else if (kind < 6) strike();
            else if (kind < 8) ask();
            else askDeeds(8);
        }
        x.countAll();
    }

    /** All is told at first, and nearly all that is asked can be: THE BOOK fills, DEEDS and LAWS change, strokes are taken back. */
    private static void busyRun(int run) {
        start("a busy office", run, 400);
        String[] rows = tellAll(7);
        x.law(dice.mildLaw());
        while (x.callsLeft() > 90) busyCalls(rows);
        x.countAll();
    }

    /** Eight BLANKS, and eight DEEDS that come from some of them. */
    private static String[] tellAll(int least) {
        int kinds = 2 + dice.any(2);
        String[] rows = new String[8];
        for (int b = 0; b < 8; b++) rows[b] = dice.letters(least + dice.any(10 - least), kinds);
        for (int b = 0; b < 8; b++) x.blank(rows[b]);
        for (int i = 0; i < 8; i++) x.deed(i, dice.leftOf(rows[dice.any(7)], 1 + dice.any(4)));
        return rows;
    }

    private static void busyCalls(String[] rows) {
        int b = someBlank();
        int kind = dice.any(29);
        if (kind < 12) strikeOne(b);
        else if (kind < 15) x.done(b, dice.any(7), dice.any(7));
        else if (kind < 17) x.draw(b, 1 + dice.any(5));
        else if (kind < 18) x.back(b);
        else if (kind < 20) x.deed(dice.any(7), dice.leftOf(rows[b & 7], 1 + dice.any(4)));
        else if (kind < 21) x.law(dice.oneOf(4) ? dice.law() : dice.mildLaw());
        else if (kind < 22) x.day(Math.min(999, x.slow.count(4) + dice.any(9)));
        else if (kind < 23) check(b);
        else if (kind < 26) ask();
        else if (kind < 29) askDeeds(4);
        else oddTell();
    }

    /** What is seldom told: a tape that is full, a DEED too long for THE SHORTEST. */
    private static void oddTell() {
        if (dice.oneOf(2)) {
            for (int k = 0; k < 11; k++) x.feed(dice.wild(), dice.wild(), dice.wild(), dice.wild(), dice.wild());
            x.law(1);
        } else {
            int i = dice.any(7);
            x.deed(i, dice.letters(13, 2));
            x.shortest(1 << i | 1 << dice.any(7), dice.about(-1, 20));
            x.shortestMany(1 << i | 1 << (i + 1 & 7));
            x.bound(1 << i | 1 << (i + 1 & 7));
            x.deed(i, "ab");
        }
    }

    /** THE BOOK is nearly full from early on, and is full now and then. */
    private static void fullBookRun(int run) {
        start("a full BOOK", run, 400);
        String[] rows = tellAll(9);
        for (int k = 0; k < 56; k++) strikeOne(k % 7);
        while (x.callsLeft() > 60) {
            int b = dice.any(7);
            int kind = dice.any(15);
            if (kind < 4) strikeOne(b);
            else if (kind < 7) x.done(kind < 6 ? 7 : b, dice.any(7), dice.any(7));
            else if (kind < 9) x.draw(b, 1 + dice.any(4));
            else if (kind < 13) x.back(b);
            else if (kind < 14) x.deed(dice.any(7), dice.leftOf(rows[7], 1 + dice.any(4)));
            else if (kind < 15) x.book(50 + dice.any(10), dice.oneOf(2) ? dice.any(4) : 10 + dice.any(2));
            else x.law(dice.mildLaw());
        }
        x.countAll();
    }

    private static void strikeOne(int b) { x.strike(b, dice.any(Math.max(0, x.slow.count(10 + b) - 1)), 1, dice.any(7)); }

    /** Only DEEDS, all letters of the rows that are found for two, three and four of them. */
    private static void rowsOfDeeds(int run) {
        start("rows of DEEDS", run, 40);
        for (int i = 0; i < 4; i++) x.deed(i, dice.letters(1 + dice.any(5), 1 + dice.any(3)));
        for (int bits = 0; bits < 16; bits++) {
            x.shortestMany(bits);
            for (int what = -1; what < 12; what++) {
                x.hidden(bits, what);
                x.shortest(bits, what);
            }
            x.bound(bits);
        }
    }

    /** Else a sentence of the document would not have been tried by any run. */
    private static void everyKindOfAnswer() {
        Due.sentence("each kind of answer that the document tells");
        for (String name : new String[] {"day", "seed"}) Twins.mustHaveSeen(name, "0", "more");
        Twins.mustHaveSeen("feed", "more", "-1");
        Twins.mustHaveSeen("blank", "0", "more", "-1", "-2");
        Twins.mustHaveSeen("deed", "more", "-1", "-2");
        Twins.mustHaveSeen("law", "more", "-1", "-1000", "-2000", "-4000", "-5000");
        for (String name : new String[] {"left", "may", "ways", "even", "hidden", "forged", "draw", "count"}) Twins.mustHaveSeen(name, "0", "more", "-1");
        Twins.mustHaveSeen("strike", "0", "more", "-1", "-2", "-3");
        Twins.mustHaveSeen("back", "more", "-1");
        Twins.mustHaveSeen("book", "0", "more", "-1000");
        Twins.mustHaveSeen("done", "0", "more", "-1", "-2", "-3");
        for (String name : new String[] {"cheapest", "strokes", "shortest", "spare", "dayEnd", "family", "chain", "check"})
            Twins.mustHaveSeen(name, "0", "more", "-1", "-2");
        for (String name : new String[] {"shortestMany", "bound"}) Twins.mustHaveSeen(name, "more", "-1", "-2");
        Twins.mustHaveSeen("worth", "0", "more", "-1", "-1000");
    }

    public static void main(String[] args) {
        int runs = args.length > 0 ? Integer.parseInt(args[0]) : 300;
        for (int run = 1; run <= runs && Due.isFine(); run++) anyRun(run);
        for (int run = 1; run <= runs && Due.isFine(); run++) busyRun(run);
        for (int run = 1; run <= runs && Due.isFine(); run++) fullBookRun(run);
        for (int run = 1; run <= runs && Due.isFine(); run++) rowsOfDeeds(run);
        everyKindOfAnswer();
        Due.end();
    }
}

import java.util.Arrays;

/**
 * An office that can only strike out LETTERS of what it once wrote.
 *
 * The words in capitals are those of the document. All rows are made once and used again,
 * because everything that a run of calls makes stays in one room.
 */
public final class StrikeOut {
    public static final int NONE = -1;

    private static final int CANNOT = -2;
    private static final int NO_ROOM = -3;
    private static final int NO_SUCH = -1000;

    private static final int ALPHABET = 26;
    private static final int BLANKS = 8;
    private static final int DEEDS = 8;
    private static final int CLERKS = 8;
    private static final int DAYS = 1000;
    private static final int WIDTHS = 9;
    private static final int BLANK_ROOM = 40;
    private static final int DEED_ROOM = 16;
    private static final int STROKE_ROOM = 9;
    private static final int BOOK_ROOM = 60;
    private static final int TAPE_ROOM = 200;
    private static final int TEXT_ROOM = 160;
    private static final int CLAUSE_ROOM = 12;
    private static final int COVERED = 4;
    private static final int COVERED_ROOM = 12;
    private static final int SEEDS = 65536;
    private static final int MOST_DRAWS = 40;
    private static final int LOST = 10;
    /** More than any price or number of strokes, and far from where sums of it would wrap. */
    private static final int NEVER = 1000000;

    private final Tape tape;
    private final Blank[] blanks;
    private int blankCount;
    /** A DEED that is not told is a row of none. */
    private final Row[] deedRows;
    private Law law;
    private final LawReader reader;
    private final Book pages;
    private int today;
    private int drawn;
    private final Fits fits;
    private final Choice choice;
    private final Hiding hiding;
    /** Made when it is first asked for: it is by far the largest. */
    private Cover cover;
    private final Sharing sharing;
    private final int[] parents;
    private final int[] longest;
    private final int[] chained;

    public StrikeOut() {
        tape = new Tape();
        blanks = new Blank[BLANKS];
        for (int b = 0; b < BLANKS; b++) {
            blanks[b] = new Blank();
        }
        blankCount = 0;
        deedRows = new Row[DEEDS];
        for (int i = 0; i < DEEDS; i++) {
            deedRows[i] = new Row(DEED_ROOM);
        }
        law = new Law();
        reader = new LawReader();
        pages = new Book();
        today = 0;
        drawn = 1;
        fits = new Fits();
        choice = new Choice();
        hiding = new Hiding();
        cover = null;
        sharing = new Sharing();
        parents = new int[DEEDS];
        longest = new int[DEEDS];
        chained = new int[DEEDS];
    }

    // ---- what is told ----

    public boolean day(int d) {
        if (d < today || d >= DAYS) {
            return false;
        }
        today = d;
        return true;
    }

    public int feed(int a, int b, int c, int d, int e) {
        if (!tape.hasRoom(20)) {
            return NONE;
        }
        tape.put(a);
        tape.put(b);
        tape.put(c);
        tape.put(d);
        tape.put(e);
        return tape.size;
    }

    public int blank(int n) {
        if (n < 1 || n > BLANK_ROOM || blankCount >= BLANKS || n > tape.size) {
            return NONE;
        }
        boolean fine = tape.holdsLetters(n);
        if (fine) {
            tape.copyLetters(n, blanks[blankCount].written);
            blanks[blankCount].gather();
            blankCount++;
        }
        tape.size = 0;
        return fine ? blankCount - 1 : CANNOT;
    }

    public int deed(int i, int n) {
        if (i < 0 || i >= DEEDS || n < 1 || n > DEED_ROOM || n > tape.size) {
            return NONE;
        }
        boolean fine = tape.holdsLetters(n);
        if (fine) {
            tape.copyLetters(n, deedRows[i]);
            forgetSolved();
        }
        tape.size = 0;
        return fine ? n : CANNOT;
    }

    public int law(int n) {
        if (n < 1 || n > TEXT_ROOM || n > tape.size) {
            return NONE;
        }
        int answer = reader.read(tape.bytes, n);
        tape.size = 0;
        if (answer >= 0) {
            law = reader.exchange(law);
        }
        return answer;
    }

    // ---- strokes and the book ----

    public int left(int b, int place, int what) {
        if (!isPlace(b, place)) {
            return NONE;
        }
        if (what == 0) {
            return blanks[b].rest.at(place);
        }
        return what == 1 ? blanks[b].ownAt(place) : NONE;
    }

    public int may(int b, int place, int clerk, int what) {
        if (!isPlace(b, place) || !isClerk(clerk) || what < 0 || what > 1) {
            return NONE;
        }
        askLaw(b, place, place + 1, clerk);
        if (what == 0) {
            return choice.free[place] ? 1 : 0;
        }
        return choice.price[place];
    }

    public int strike(int b, int place, int n, int clerk) {
        if (!isPlace(b, place) || !isClerk(clerk) || n < 1 || n > STROKE_ROOM) {
            return NONE;
        }
        if (place + n > blanks[b].rest.size) {
            return NONE;
        }
        askLaw(b, place, place + n, clerk);
        for (int p = place; p < place + n; p++) {
            if (!choice.free[p]) {
                return CANNOT;
            }
        }
        if (!pages.hasRoom(1)) {
            return NO_ROOM;
        }
        return writeStroke(b, place, n, clerk);
    }

    public int back(int b) {
        int stroke = pages.lastOf(b);
        if (!isBlank(b) || stroke == NONE) {
            return NONE;
        }
        int size = pages.sizeOf[stroke];
        for (int k = 0; k < size; k++) {
            blanks[b].mark(pages.numberOf(stroke, k), false);
        }
        blanks[b].gather();
        pages.remove(stroke);
        return size;
    }

    public int book(int i, int what) {
        return pages.tell(i, what);
    }

    // ---- a deed out of a blank ----

    public long ways(int b, int i) {
        if (!isBlank(b) || !isDeed(i)) {
            return NONE;
        }
        // Every gap is made of strokes of one letter, so no choice is left out.
        return fits.evenChoices(blanks[b].rest, deedRows[i], 1);
    }

    public int cheapest(int b, int i, int clerk, int what) {
        if (!isBlank(b) || !isDeed(i) || !isClerk(clerk)) {
            return NONE;
        }
        if (what < NONE || what >= deedRows[i].size) {
            return NONE;
        }
        askLaw(b, 0, blanks[b].rest.size, clerk);
        int price = choice.choose(blanks[b].rest, deedRows[i]);
        if (price == NONE) {
            return CANNOT;
        }
        return what == NONE ? price : choice.stays[what];
    }

    public int done(int b, int i, int clerk) {
        if (!isBlank(b) || !isDeed(i) || !isClerk(clerk)) {
            return NONE;
        }
        int end = blanks[b].rest.size;
        askLaw(b, 0, end, clerk);
        if (choice.choose(blanks[b].rest, deedRows[i]) == NONE) {
            return CANNOT;
        }
        int kept = deedRows[i].size;
        int needed = countGapStrokes(kept, end);
        if (!pages.hasRoom(needed)) {
            return NO_ROOM;
        }
        // From the end back, so that the places ahead keep the prices that were asked for them.
        for (int k = kept - 1; k >= 0; k--) {
            strikeGap(b, choice.stays[k] + 1, end, clerk);
            end = choice.stays[k];
        }
        strikeGap(b, 0, end, clerk);
        return needed;
    }

    public int strokes(int b, int i, int w) {
        if (!isBlank(b) || !isDeed(i) || !isWidth(w)) {
            return NONE;
        }
        int fewest = fits.fewestStrokes(blanks[b].rest, deedRows[i], w);
        return fewest >= NEVER ? CANNOT : fewest;
    }

    public long even(int b, int i, int w) {
        if (!isBlank(b) || !isDeed(i) || !isWidth(w)) {
            return NONE;
        }
        return fits.evenChoices(blanks[b].rest, deedRows[i], w);
    }

    // ---- several deeds ----

    public int hidden(int deeds, int what) {
        int many = Integer.bitCount(deeds);
        if (!areDeeds(deeds) || many < 2 || many > 3 || what < NONE) {
            return NONE;
        }
        if (hiding.solvedFor != deeds) {
            Row first = deedAmong(deeds, 0);
            // Of two deeds the first one stands for a third: that hides nothing more.
            hiding.solve(first, deedAmong(deeds, 1), many == 3 ? deedAmong(deeds, 2) : first);
            hiding.solvedFor = deeds;
        }
        return what == NONE ? hiding.found.size : hiding.found.at(what);
    }

    public int shortest(int deeds, int what) {
        if (what < NONE) {
            return NONE;
        }
        int refusal = refuseCover(deeds);
        if (refusal != 0) {
            return refusal;
        }
        Row row = coverFor(deeds).first;
        return what == NONE ? row.size : row.at(what);
    }

    public long shortestMany(int deeds) {
        int refusal = refuseCover(deeds);
        if (refusal != 0) {
            return refusal;
        }
        return coverFor(deeds).howMany();
    }

    public int bound(int deeds) {
        int refusal = refuseCover(deeds);
        if (refusal != 0) {
            return refusal;
        }
        int greatest = 0;
        for (int i = 0; i < DEEDS; i++) {
            for (int j = i + 1; j < DEEDS; j++) {
                if (isAmong(deeds, i) && isAmong(deeds, j)) {
                    greatest = Math.max(greatest, coverFor((1 << i) | (1 << j)).first.size);
                }
            }
        }
        return greatest;
    }

    public int forged(int i) {
        if (!isDeed(i)) {
            return NONE;
        }
        for (int b = 0; b < blankCount; b++) {
            if (deedRows[i].comesFrom(blanks[b].written)) {
                return 0;
            }
        }
        return 1;
    }

    public long spare(int b, int deeds) {
        if (!isBlank(b) || !areDeeds(deeds)) {
            return NONE;
        }
        Row rest = blanks[b].rest;
        if (!allCome(deeds, rest, NONE)) {
            return CANNOT;
        }
        long bits = 0;
        for (int place = 0; place < rest.size; place++) {
            if (allCome(deeds, rest, place)) {
                bits |= 1L << blanks[b].ownAt(place);
            }
        }
        return bits;
    }

    // ---- which blank for which deed ----

    public int dayEnd(int deeds, int what) {
        if (!areDeeds(deeds) || deeds == 0) {
            return NONE;
        }
        if (what < NONE || (what >= DEEDS && what != LOST)) {
            return NONE;
        }
        if (what >= 0 && what < DEEDS && !isAmong(deeds, what)) {
            return CANNOT;
        }
        weighSharing(deeds);
        sharing.trace(0);
        if (what == NONE) {
            return sharing.served;
        }
        return what == LOST ? sharing.lost : sharing.blankOf[what];
    }

    public int worth(int b, int deeds, int what) {
        if (!isBlank(b) || !areDeeds(deeds) || what < 0 || what > 1) {
            return NO_SUCH;
        }
        weighSharing(deeds);
        sharing.trace(0);
        int served = sharing.served;
        int lost = sharing.lost;
        sharing.trace(1 << b);
        return what == 0 ? served - sharing.served : sharing.lost - lost;
    }

    public int family(int b, int deeds, int w, int what) {
        if (!isBlank(b) || !areDeeds(deeds) || !isWidth(w)) {
            return NONE;
        }
        if (what < NONE || what >= DEEDS) {
            return NONE;
        }
        if (!allCome(deeds, blanks[b].written, NONE)) {
            return CANNOT;
        }
        if (what != NONE && !isAmong(deeds, what)) {
            return CANNOT;
        }
        int together = 0;
        for (int i = 0; i < DEEDS; i++) {
            if (isAmong(deeds, i)) {
                together += findParent(i, b, deeds, w);
            }
        }
        return what == NONE ? together : parents[what];
    }

    public int chain(int b, int what) {
        if (!isBlank(b) || what < NONE) {
            return NONE;
        }
        measureChains();
        int size = linkChain(blanks[b].rest);
        if (what == NONE) {
            return size;
        }
        return what >= 0 && what < size ? chained[what] : CANNOT;
    }

    // ---- days drawn, the check, the counts ----

    public boolean seed(int x) {
        if (x < 0 || x >= SEEDS) {
            return false;
        }
        drawn = x;
        return true;
    }

    public int draw(int b, int n) {
        if (!isBlank(b) || n < 1 || n > MOST_DRAWS) {
            return NONE;
        }
        int struck = 0;
        for (int k = 0; k < n && blanks[b].rest.size > 1; k++) {
            drawn = (25173 * drawn + 13849) & (SEEDS - 1);
            int place = drawn % blanks[b].rest.size;
            int clerk = drawn % CLERKS;
            askLaw(b, place, place + 1, clerk);
            if (choice.free[place] && pages.hasRoom(1)) {
                writeStroke(b, place, 1, clerk);
                struck++;
            }
        }
        return struck;
    }

    public int check(int b, int n) {
        if (!isBlank(b) || n < 0 || n > tape.size / 4) {
            return CANNOT;
        }
        Row rest = blanks[b].rest;
        int right = 0;
        while (right < n && right < rest.size && tape.numberAt(right) == rest.at(right)) {
            right++;
        }
        tape.size = 0;
        return right == n && right == rest.size ? NONE : right;
    }

    public int count(int what) {
        if (what >= 10 && what < 10 + BLANKS) {
            return isBlank(what - 10) ? blanks[what - 10].rest.size : NONE;
        }
        if (what >= 20 && what < 20 + DEEDS) {
            return deedRows[what - 20].size;
        }
        switch (what) {
            case 0: return blankCount;
            case 1: return toldDeeds();
            case 2: return law.clauses;
            case 3: return tape.size;
            case 4: return today;
            case 5: return pages.size;
            case 6: return drawn;
            case 7: return pages.costOfAll();
            default: return NONE;
        }
    }

    // ---- what there is ----

    private boolean isBlank(int b) {
        return b >= 0 && b < blankCount;
    }

    private boolean isPlace(int b, int place) {
        return isBlank(b) && place >= 0 && place < blanks[b].rest.size;
    }

    private boolean isDeed(int i) {
        return i >= 0 && i < DEEDS && deedRows[i].size > 0;
    }

    private static boolean isClerk(int clerk) {
        return clerk >= 0 && clerk < CLERKS;
    }

    private static boolean isWidth(int w) {
        return w >= 1 && w <= WIDTHS;
    }

    private static boolean isAmong(int bits, int i) {
        return ((bits >> i) & 1) == 1;
    }

    private int toldDeeds() {
        int bits = 0;
        for (int i = 0; i < DEEDS; i++) {
            if (isDeed(i)) {
                bits |= 1 << i;
            }
        }
        return bits;
    }

    private boolean areDeeds(int bits) {
        return (bits & ~toldDeeds()) == 0;
    }

    /** The DEED with so many ahead of it among those told by bits; the last one if there are fewer. */
    private Row deedAmong(int bits, int ahead) {
        int last = 0;
        int seen = 0;
        for (int i = 0; i < DEEDS && seen <= ahead; i++) {
            if (isAmong(bits, i)) {
                last = i;
                seen++;
            }
        }
        return deedRows[last];
    }

    private boolean allCome(int bits, Row row, int without) {
        for (int i = 0; i < DEEDS; i++) {
            if (isAmong(bits, i) && !deedRows[i].comesWithout(row, without)) {
                return false;
            }
        }
        return true;
    }

    // ---- strokes ----

    /** THE LAW's word on the places from one to another, as the BLANK is now, into the choice. */
    private void askLaw(int b, int from, int until, int clerk) {
        for (int place = from; place < until; place++) {
            law.show(blanks[b], b, place, clerk, today);
            choice.free[place] = !law.forbids();
            choice.price[place] = law.priceNow();
        }
    }

    /** Strikes at the prices that were asked before; the places and the room are the caller's to test. */
    private int writeStroke(int b, int place, int n, int clerk) {
        pages.begin(b, clerk, today);
        int cost = 0;
        for (int p = place; p < place + n; p++) {
            int number = blanks[b].ownAt(p);
            pages.addLetter(number, choice.price[p]);
            blanks[b].mark(number, true);
            cost += choice.price[p];
        }
        blanks[b].gather();
        return cost;
    }

    private int countGapStrokes(int kept, int size) {
        int total = 0;
        int from = 0;
        for (int k = 0; k < kept; k++) {
            total += Fits.strokesFor(choice.stays[k] - from, STROKE_ROOM);
            from = choice.stays[k] + 1;
        }
        return total + Fits.strokesFor(size - from, STROKE_ROOM);
    }

    private void strikeGap(int b, int from, int end, int clerk) {
        for (int stop = end; stop > from; stop -= STROKE_ROOM) {
            int start = Math.max(from, stop - STROKE_ROOM);
            writeStroke(b, start, stop - start, clerk);
        }
    }

    // ---- several deeds ----

    /** What was solved for some DEEDS holds till one of them changes. */
    private void forgetSolved() {
        hiding.solvedFor = 0;
        if (cover != null) {
            cover.solvedFor = 0;
        }
    }

    /** 0, or what shortest() answers instead of THE SHORTEST. */
    private int refuseCover(int bits) {
        int many = Integer.bitCount(bits);
        if (!areDeeds(bits) || many < 2 || many > COVERED) {
            return NONE;
        }
        for (int i = 0; i < DEEDS; i++) {
            if (isAmong(bits, i) && deedRows[i].size > COVERED_ROOM) {
                return CANNOT;
            }
        }
        return 0;
    }

    private Cover coverFor(int bits) {
        Cover solved = cover == null ? new Cover() : cover;
        cover = solved;
        if (solved.solvedFor != bits) {
            solved.clearParts();
            for (int i = 0; i < DEEDS; i++) {
                if (isAmong(bits, i)) {
                    solved.addPart(deedRows[i]);
                }
            }
            solved.solve();
            solved.solvedFor = bits;
        }
        return solved;
    }

    private void weighSharing(int bits) {
        for (int i = 0; i < DEEDS; i++) {
            for (int b = 0; b < BLANKS; b++) {
                boolean comes = isAmong(bits, i) && isBlank(b) && deedRows[i].comesFrom(blanks[b].rest);
                sharing.weigh(i, b, comes ? blanks[b].rest.size - deedRows[i].size : NONE);
            }
        }
        sharing.solve(blankCount);
    }

    /** Whether one DEED can stand behind another in a FAMILY or a CHAIN: like ones only by their numbers. */
    private boolean descends(int i, int parent) {
        int more = deedRows[parent].size - deedRows[i].size;
        if (more < 0 || (more == 0 && parent >= i)) {
            return false;
        }
        return deedRows[i].comesFrom(deedRows[parent]);
    }

    private int findParent(int i, int b, int bits, int w) {
        int fewest = fits.fewestStrokes(blanks[b].written, deedRows[i], w);
        parents[i] = BLANKS;
        for (int j = 0; j < DEEDS; j++) {
            if (isAmong(bits, j) && descends(i, j)) {
                int needed = fits.fewestStrokes(deedRows[j], deedRows[i], w);
                if (needed < fewest) {
                    fewest = needed;
                    parents[i] = j;
                }
            }
        }
        return fewest;
    }

    /**
     * How long a chain from each DEED on can be. Short ones first, of like length the last first:
     * so all that can stand behind one are measured before it.
     */
    private void measureChains() {
        Arrays.fill(longest, 0);
        for (int size = 1; size <= DEED_ROOM; size++) {
            for (int i = DEEDS - 1; i >= 0; i--) {
                if (deedRows[i].size == size) {
                    longest[i] = 1 + longestBehind(i);
                }
            }
        }
    }

    private int longestBehind(int i) {
        int most = 0;
        for (int j = 0; j < DEEDS; j++) {
            if (isDeed(j) && descends(j, i)) {
                most = Math.max(most, longest[j]);
            }
        }
        return most;
    }

    /** Links the least of the longest chains and answers its length. */
    private int linkChain(Row row) {
        int most = 0;
        int first = NONE;
        for (int i = 0; i < DEEDS; i++) {
            if (longest[i] > most && deedRows[i].comesFrom(row)) {
                most = longest[i];
                first = i;
            }
        }
        int next = first;
        for (int k = 0; k < most && next != NONE; k++) {
            chained[k] = next;
            next = nextInChain(next);
        }
        return most;
    }

    private int nextInChain(int i) {
        for (int j = 0; j < DEEDS; j++) {
            if (isDeed(j) && longest[j] == longest[i] - 1 && descends(j, i)) {
                return j;
            }
        }
        return NONE;
    }

    // ---- the classes inside ----

    /** The bytes that were fed. */
    private static final class Tape {
        final int[] bytes = new int[TAPE_ROOM];
        int size = 0;

        boolean hasRoom(int more) {
            return size + more <= TAPE_ROOM;
        }

        void put(int number) {
            for (int shift = 24; shift >= 0 && size < TAPE_ROOM; shift -= 8) {
                bytes[size] = (number >>> shift) & 255;
                size++;
            }
        }

        boolean holdsLetters(int n) {
            for (int k = 0; k < n && k < TAPE_ROOM; k++) {
                if (bytes[k] < 'a' || bytes[k] > 'z') {
                    return false;
                }
            }
            return true;
        }

        void copyLetters(int n, Row into) {
            into.size = 0;
            for (int k = 0; k < n && k < TAPE_ROOM; k++) {
                into.add(bytes[k] - 'a');
            }
        }

        /** Number k of those of four bytes each. */
        int numberAt(int k) {
            int number = 0;
            if (k >= 0 && k < TAPE_ROOM / 4) {
                for (int n = 4 * k; n < 4 * k + 4; n++) {
                    number = (number << 8) | bytes[n];
                }
            }
            return number;
        }
    }

    /** A row of LETTERS, 0 to 25. */
    private static final class Row {
        final int[] letters;
        int size = 0;

        Row(int room) {
            letters = new int[Math.max(room, 0)];
        }

        int at(int place) {
            return place >= 0 && place < size ? letters[place] : NONE;
        }

        void add(int letter) {
            if (size < letters.length) {
                letters[size] = letter;
                size++;
            }
        }

        /** The first place, from one on, of a LETTER; NONE if there is none. */
        int placeOf(int letter, int from) {
            for (int place = Math.max(from, 0); place < size; place++) {
                if (letters[place] == letter) {
                    return place;
                }
            }
            return NONE;
        }

        boolean comesFrom(Row other) {
            return comesWithout(other, NONE);
        }

        /** COMES from the other row without its LETTER at one place: to take each as early as can be is enough. */
        boolean comesWithout(Row other, int without) {
            int found = 0;
            for (int place = 0; place < other.size && found < size; place++) {
                if (place != without && other.letters[place] == letters[found]) {
                    found++;
                }
            }
            return found == size;
        }
    }

    /** A BLANK as written, and what is LEFT of it. */
    private static final class Blank {
        final Row written = new Row(BLANK_ROOM);
        final Row rest = new Row(BLANK_ROOM);
        private final int[] own = new int[BLANK_ROOM];
        private final boolean[] struck = new boolean[BLANK_ROOM];

        /** What is LEFT stands as a row of its own, since nearly all is asked of that. */
        void gather() {
            rest.size = 0;
            for (int number = 0; number < written.size; number++) {
                if (!struck[number]) {
                    own[rest.size] = number;
                    rest.add(written.letters[number]);
                }
            }
        }

        void mark(int number, boolean gone) {
            if (number >= 0 && number < written.size) {
                struck[number] = gone;
            }
        }

        int ownAt(int place) {
            return place >= 0 && place < rest.size ? own[place] : NONE;
        }

        /** 1 for what is STRUCK, and for what lies beyond either end. */
        int goneAt(int number) {
            return number < 0 || number >= written.size || struck[number] ? 1 : 0;
        }

        int howOften(int letter) {
            int often = 0;
            for (int place = 0; place < rest.size; place++) {
                if (rest.letters[place] == letter) {
                    often++;
                }
            }
            return often;
        }
    }

    /** THE BOOK: a column for each thing that is kept of a STROKE. */
    private static final class Book {
        private final int[] blankOf = new int[BOOK_ROOM];
        private final int[] clerkOf = new int[BOOK_ROOM];
        private final int[] dayOf = new int[BOOK_ROOM];
        private final int[] costOf = new int[BOOK_ROOM];
        final int[] sizeOf = new int[BOOK_ROOM];
        private final int[] numbers = new int[BOOK_ROOM * STROKE_ROOM];
        int size = 0;

        boolean hasRoom(int more) {
            return size + more <= BOOK_ROOM;
        }

        void begin(int b, int clerk, int day) {
            if (hasRoom(1)) {
                blankOf[size] = b;
                clerkOf[size] = clerk;
                dayOf[size] = day;
                costOf[size] = 0;
                sizeOf[size] = 0;
                size++;
            }
        }

        /** To the stroke that was begun last. */
        void addLetter(int number, int price) {
            int stroke = size - 1;
            if (stroke >= 0 && sizeOf[stroke] < STROKE_ROOM) {
                numbers[stroke * STROKE_ROOM + sizeOf[stroke]] = number;
                sizeOf[stroke]++;
                costOf[stroke] += price;
            }
        }

        int lastOf(int b) {
            for (int i = size - 1; i >= 0; i--) {
                if (blankOf[i] == b) {
                    return i;
                }
            }
            return NONE;
        }

        int numberOf(int i, int k) {
            boolean there = i >= 0 && i < size && k >= 0 && k < sizeOf[i];
            return there ? numbers[i * STROKE_ROOM + k] : NO_SUCH;
        }

        void remove(int i) {
            if (i < 0 || i >= size) {
                return;
            }
            moveUp(blankOf, i, 1);
            moveUp(clerkOf, i, 1);
            moveUp(dayOf, i, 1);
            moveUp(costOf, i, 1);
            moveUp(sizeOf, i, 1);
            moveUp(numbers, i, STROKE_ROOM);
            size--;
        }

        private void moveUp(int[] column, int i, int width) {
            System.arraycopy(column, (i + 1) * width, column, i * width, (size - i - 1) * width);
        }

        int costOfAll() {
            int sum = 0;
            for (int i = 0; i < size; i++) {
                sum += costOf[i];
            }
            return sum;
        }

        int tell(int i, int what) {
            if (i < 0 || i >= size) {
                return NO_SUCH;
            }
            switch (what) {
                case 0: return blankOf[i];
                case 1: return clerkOf[i];
                case 2: return dayOf[i];
                case 3: return costOf[i];
                case 4: return sizeOf[i];
                default: return what < 10 ? NO_SUCH : numberOf(i, what - 10);
            }
        }
    }

    /**
     * THE LAW as steps that are reckoned one behind another on a stack: each sign of the TEXT stands
     * behind what it joins, and | and & leap ahead when what follows does not matter any more.
     */
    private static final class Law {
        static final int NUMBER = '#';
        static final int NAME = '$';
        static final String NAMES = "liwmokdbfg";
        private static final int STACK_ROOM = 32;
        private static final int LEAST_PRICE = 0;
        private static final int MOST_PRICE = 99;
        private static final int USUAL_PRICE = 1;

        private final int[] sign = new int[TEXT_ROOM];
        private final int[] operand = new int[TEXT_ROOM];
        private int length = 0;
        private final int[] kindOf = new int[CLAUSE_ROOM];
        private final int[] priceFrom = new int[CLAUSE_ROOM];
        private final int[] conditionFrom = new int[CLAUSE_ROOM];
        private final int[] endOf = new int[CLAUSE_ROOM];
        int clauses = 0;

        private final int[] seen = new int[10];
        private final int[] stack = new int[STACK_ROOM];
        private int height = 0;
        private boolean refused = false;

        // -- written by the reader --

        void clear() {
            length = 0;
            clauses = 0;
        }

        void beginClause(int kind) {
            if (clauses < CLAUSE_ROOM) {
                kindOf[clauses] = kind;
                priceFrom[clauses] = length;
            }
        }

        void beginCondition() {
            if (clauses < CLAUSE_ROOM) {
                conditionFrom[clauses] = length;
            }
        }

        void endClause() {
            if (clauses < CLAUSE_ROOM) {
                endOf[clauses] = length;
                clauses++;
            }
        }

        int steps() {
            return length;
        }

        void emit(int aSign, int anOperand) {
            if (length < TEXT_ROOM) {
                sign[length] = aSign;
                operand[length] = anOperand;
                length++;
            }
        }

        /** Leaps without an aim yet belong to the row that ends here: those of rows within it are aimed already. */
        void aimLeaps(int aSign, int from) {
            for (int k = Math.max(from, 0); k < length; k++) {
                if (sign[k] == aSign && operand[k] == NONE) {
                    operand[k] = length;
                }
            }
        }

        // -- asked by the office --

        /** What the names stand for, in the order of NAMES. */
        void show(Blank blank, int b, int place, int clerk, int day) {
            int number = blank.ownAt(place);
            seen[0] = blank.rest.at(place);
            seen[1] = place;
            seen[2] = number;
            seen[3] = blank.rest.size;
            seen[4] = blank.howOften(seen[0]);
            seen[5] = clerk;
            seen[6] = day;
            seen[7] = b;
            seen[8] = blank.goneAt(number - 1);
            seen[9] = blank.goneAt(number + 1);
        }

        boolean forbids() {
            for (int c = 0; c < clauses; c++) {
                if (kindOf[c] == 'n' && holds(c)) {
                    return true;
                }
            }
            return false;
        }

        int priceNow() {
            for (int c = 0; c < clauses; c++) {
                if (kindOf[c] == 'p' && holds(c)) {
                    int price = reckon(priceFrom[c], conditionFrom[c]);
                    return refused ? 0 : Math.max(LEAST_PRICE, Math.min(MOST_PRICE, price));
                }
            }
            return USUAL_PRICE;
        }

        private boolean holds(int c) {
            int value = reckon(conditionFrom[c], endOf[c]);
            return !refused && value != 0;
        }

        private int reckon(int from, int until) {
            height = 0;
            refused = false;
            for (int k = from; k < until && !refused; k++) {
                if (sign[k] == '|' || sign[k] == '&') {
                    int held = pop();
                    if ((held != 0) == (sign[k] == '|')) {
                        push(held);
                        k = Math.max(k, operand[k] - 1);
                    }
                } else {
                    takeStep(sign[k], operand[k]);
                }
            }
            return pop();
        }

        private void takeStep(int aSign, int anOperand) {
            if (aSign == NUMBER) {
                push(anOperand);
            } else if (aSign == NAME) {
                push(anOperand >= 0 && anOperand < seen.length ? seen[anOperand] : 0);
            } else if (aSign == '!') {
                push(pop() == 0 ? 1 : 0);
            } else {
                int right = pop();
                refused = right == 0 && (aSign == '/' || aSign == '%');
                push(join(aSign, pop(), right));
            }
        }

        private static int join(int aSign, int a, int b) {
            switch (aSign) {
                case '+': return a + b;
                case '-': return a - b;
                case '*': return a * b;
                case '/': return b == 0 ? 0 : a / b;
                case '%': return b == 0 ? 0 : a % b;
                case '<': return a < b ? 1 : 0;
                case '>': return a > b ? 1 : 0;
                default: return a == b ? 1 : 0;
            }
        }

        private void push(int value) {
            if (height < STACK_ROOM) {
                stack[height] = value;
                height++;
            }
        }

        private int pop() {
            if (height == 0) {
                return 0;
            }
            height--;
            return stack[height];
        }
    }

    /** Reads the TEXT of a LAW from the left and stops at the first FAULT. */
    private static final class LawReader {
        private static final int WRONG = 1;
        private static final int LONG_NUMBER = 2;
        private static final int MANY_CLAUSES = 4;
        private static final int DEEP = 5;
        private static final int MOST_OPEN = 6;
        private static final int MOST_DIGITS = 5;

        private final int[] text = new int[TEXT_ROOM];
        /** Not the office's own, so that a FAULT leaves the LAW before as it was. */
        private Law into = new Law();
        private int end = 0;
        private int at = 0;
        private int fault = 0;

        /** The LAW that was read, for one that is not needed any more. */
        Law exchange(Law before) {
            Law told = into;
            into = before;
            return told;
        }

        /** How many CLAUSES the first n bytes have, or the FAULT. */
        int read(int[] bytes, int n) {
            end = Math.max(0, Math.min(n, Math.min(bytes.length, TEXT_ROOM)));
            System.arraycopy(bytes, 0, text, 0, end);
            into.clear();
            at = 0;
            fault = 0;
            boolean more = true;
            for (int c = 0; c <= CLAUSE_ROOM && more; c++) {
                if (!readClause(c)) {
                    return fault;
                }
                more = at < end;
                if (more && !pass(';')) {
                    return fault;
                }
            }
            return into.clauses;
        }

        private int peek() {
            return at < end ? text[at] : NONE;
        }

        private boolean fail(int number) {
            fault = -1000 * number - at;
            return false;
        }

        private boolean pass(int sign) {
            if (peek() != sign) {
                return fail(WRONG);
            }
            at++;
            return true;
        }

        /** One of ( [ ! where it can stand, with so many open around it. */
        private boolean open(int depth) {
            if (depth >= MOST_OPEN) {
                return fail(DEEP);
            }
            at++;
            return true;
        }

        private boolean readClause(int c) {
            int kind = peek();
            if (kind != 'n' && kind != 'p') {
                return fail(WRONG);
            }
            if (c >= CLAUSE_ROOM) {
                return fail(MANY_CLAUSES);
            }
            at++;
            into.beginClause(kind);
            if (kind == 'p' && !readSum(0)) {
                return false;
            }
            into.beginCondition();
            if (!pass('(') || !readCondition(1) || !pass(')')) {
                return false;
            }
            into.endClause();
            return true;
        }

        private boolean readCondition(int depth) {
            int from = into.steps();
            for (int parts = 0; parts < TEXT_ROOM; parts++) {
                if (!readPart(depth)) {
                    return false;
                }
                if (peek() != '|') {
                    break;
                }
                into.emit('|', NONE);
                at++;
            }
            into.aimLeaps('|', from);
            return true;
        }

        private boolean readPart(int depth) {
            int from = into.steps();
            for (int pieces = 0; pieces < TEXT_ROOM; pieces++) {
                if (!readPiece(depth)) {
                    return false;
                }
                if (peek() != '&') {
                    break;
                }
                into.emit('&', NONE);
                at++;
            }
            into.aimLeaps('&', from);
            return true;
        }

        private boolean readPiece(int depth) {
            if (peek() == '!') {
                if (!open(depth) || !readPiece(depth + 1)) {
                    return false;
                }
                into.emit('!', 0);
                return true;
            }
            if (peek() == '(') {
                return open(depth) && readCondition(depth + 1) && pass(')');
            }
            if (!readSum(depth)) {
                return false;
            }
            int sign = peek();
            if (sign != '<' && sign != '>' && sign != '=') {
                return fail(WRONG);
            }
            at++;
            if (!readSum(depth)) {
                return false;
            }
            into.emit(sign, 0);
            return true;
        }

        private boolean readSum(int depth) {
            if (!readTerm(depth)) {
                return false;
            }
            for (int terms = 0; terms < TEXT_ROOM && (peek() == '+' || peek() == '-'); terms++) {
                int sign = peek();
                at++;
                if (!readTerm(depth)) {
                    return false;
                }
                into.emit(sign, 0);
            }
            return true;
        }

        private boolean readTerm(int depth) {
            if (!readFactor(depth)) {
                return false;
            }
            for (int factors = 0; factors < TEXT_ROOM && timesAhead(); factors++) {
                int sign = peek();
                at++;
                if (!readFactor(depth)) {
                    return false;
                }
                into.emit(sign, 0);
            }
            return true;
        }

        private boolean timesAhead() {
            int sign = peek();
            return sign == '*' || sign == '/' || sign == '%';
        }

        private boolean readFactor(int depth) {
            if (peek() == '[') {
                return open(depth) && readSum(depth + 1) && pass(']');
            }
            if (digitAhead()) {
                return readNumber();
            }
            int name = peek() == NONE ? NONE : Law.NAMES.indexOf((char) peek());
            if (name < 0) {
                return fail(WRONG);
            }
            into.emit(Law.NAME, name);
            at++;
            return true;
        }

        private boolean digitAhead() {
            return at < end && text[at] >= '0' && text[at] <= '9';
        }

        private boolean readNumber() {
            int value = 0;
            for (int digits = 0; digits < MOST_DIGITS && digitAhead(); digits++) {
                value = value * 10 + text[at] - '0';
                at++;
            }
            if (digitAhead()) {
                return fail(LONG_NUMBER);
            }
            into.emit(Law.NUMBER, value);
            return true;
        }
    }

    /** Counts over all CHOICES of a DEED out of a row, by the gaps between the LETTERS that stay. */
    private static final class Fits {
        /** Both by how many places ahead are settled, the last of them by a LETTER that stays. */
        private final int[] few = new int[BLANK_ROOM + 1];
        private final long[] many = new long[BLANK_ROOM + 1];

        /** The fewest STROKES for a gap: what stands between two that stay ends side by side. */
        static int strokesFor(int gap, int w) {
            return w < 1 ? NEVER : (gap + w - 1) / w;
        }

        /** NEVER, or more, if the DEED does not COME from the row. */
        int fewestStrokes(Row row, Row deed, int w) {
            Arrays.fill(few, NEVER);
            few[0] = 0;
            for (int j = 0; j < deed.size; j++) {
                // From the end back: each only needs those ahead of it, as they were.
                for (int place = row.size - 1; place >= 0; place--) {
                    few[place + 1] = row.letters[place] == deed.letters[j] ? fewestTo(place, w) : NEVER;
                }
                few[0] = NEVER;
            }
            return fewestTo(row.size, w);
        }

        private int fewestTo(int place, int w) {
            int fewest = NEVER;
            for (int from = 0; from <= place; from++) {
                if (few[from] < NEVER) {
                    fewest = Math.min(fewest, few[from] + strokesFor(place - from, w));
                }
            }
            return fewest;
        }

        long evenChoices(Row row, Row deed, int w) {
            Arrays.fill(many, 0);
            many[0] = 1;
            for (int j = 0; j < deed.size; j++) {
                for (int place = row.size - 1; place >= 0; place--) {
                    many[place + 1] = row.letters[place] == deed.letters[j] ? manyTo(place, w) : 0;
                }
                many[0] = 0;
            }
            return manyTo(row.size, w);
        }

        private long manyTo(int place, int w) {
            long sum = 0;
            int width = Math.max(w, 1);
            for (int from = place; from >= 0; from -= width) {
                sum += many[from];
            }
            return sum;
        }
    }

    /** CHEAPEST, by what THE LAW was asked before. */
    private static final class Choice {
        private static final int WIDE = DEED_ROOM + 1;

        final boolean[] free = new boolean[BLANK_ROOM];
        final int[] price = new int[BLANK_ROOM];
        final int[] stays = new int[DEED_ROOM];
        /** The least price from a place on for the DEED from a LETTER on. */
        private final int[] least = new int[(BLANK_ROOM + 1) * WIDE];

        /** The price, and in stays the PLACES; NONE if it can't be. */
        int choose(Row row, Row deed) {
            for (int j = 0; j <= deed.size; j++) {
                least[row.size * WIDE + j] = j == deed.size ? 0 : NEVER;
            }
            for (int place = row.size - 1; place >= 0; place--) {
                for (int j = 0; j <= deed.size; j++) {
                    least[place * WIDE + j] = Math.min(ifKept(row, deed, place, j), ifStruck(place, j));
                }
            }
            if (least[0] >= NEVER) {
                return NONE;
            }
            trace(row, deed);
            return least[0];
        }

        private int ifStruck(int place, int j) {
            int behind = least[(place + 1) * WIDE + j];
            return free[place] && behind < NEVER ? behind + price[place] : NEVER;
        }

        private int ifKept(Row row, Row deed, int place, int j) {
            boolean fits = j < deed.size && row.letters[place] == deed.letters[j];
            return fits ? least[(place + 1) * WIDE + j + 1] : NEVER;
        }

        /** To keep as early as the price allows gives the least row of PLACES. */
        private void trace(Row row, Row deed) {
            int j = 0;
            for (int place = 0; place < row.size && j < deed.size; place++) {
                if (ifKept(row, deed, place, j) == least[place * WIDE + j]) {
                    stays[j] = place;
                    j++;
                }
            }
        }
    }

    /** HIDDEN in three DEEDS. */
    private static final class Hiding {
        private static final int WIDE = DEED_ROOM + 1;

        final Row found = new Row(DEED_ROOM);
        /** The DEEDS (bits) for which all here stands; 0: none. */
        int solvedFor = 0;
        /** How long the longest is that is hidden in the three from three places on. */
        private final int[] most = new int[WIDE * WIDE * WIDE];

        private static int cell(int i, int j, int k) {
            return (i * WIDE + j) * WIDE + k;
        }

        void solve(Row a, Row b, Row c) {
            for (int i = a.size; i >= 0; i--) {
                for (int j = b.size; j >= 0; j--) {
                    for (int k = c.size; k >= 0; k--) {
                        most[cell(i, j, k)] = mostFrom(a, b, c, i, j, k);
                    }
                }
            }
            trace(a, b, c);
        }

        private int mostFrom(Row a, Row b, Row c, int i, int j, int k) {
            if (i == a.size || j == b.size || k == c.size) {
                return 0;
            }
            int letter = a.letters[i];
            if (letter == b.letters[j] && letter == c.letters[k]) {
                return 1 + most[cell(i + 1, j + 1, k + 1)];
            }
            int without = Math.max(most[cell(i + 1, j, k)], most[cell(i, j + 1, k)]);
            return Math.max(without, most[cell(i, j, k + 1)]);
        }

        /** Letter by letter the first of the alphabet behind which enough is hidden. */
        private void trace(Row a, Row b, Row c) {
            found.size = 0;
            int i = 0;
            int j = 0;
            int k = 0;
            for (int more = most[0]; more > 0; more--) {
                for (int letter = 0; letter < ALPHABET; letter++) {
                    int inA = a.placeOf(letter, i);
                    int inB = b.placeOf(letter, j);
                    int inC = c.placeOf(letter, k);
                    boolean there = inA != NONE && inB != NONE && inC != NONE;
                    if (there && most[cell(inA + 1, inB + 1, inC + 1)] == more - 1) {
                        found.add(letter);
                        i = inA + 1;
                        j = inB + 1;
                        k = inC + 1;
                        break;
                    }
                }
            }
        }
    }

    /** THE SHORTEST for up to four DEEDS: a state is how far each of them is settled. */
    private static final class Cover {
        private static final int STATES = 13 * 13 * 13 * 13;

        final Row first = new Row(COVERED * COVERED_ROOM);
        /** The DEEDS (bits) for which all here stands; 0: none. */
        int solvedFor = 0;
        private final Row[] parts = new Row[COVERED];
        private final Row nothing = new Row(0);
        private int partCount = 0;
        private final int[] at = new int[COVERED];
        /** How far apart two states are that differ by one LETTER of a DEED. */
        private final int[] apart = new int[COVERED];
        private final int[] ahead = new int[COVERED];
        private final int[] length = new int[STATES];
        private final long[] many = new long[STATES];

        Cover() {
            clearParts();
        }

        void clearParts() {
            partCount = 0;
            for (int d = 0; d < COVERED; d++) {
                parts[d] = nothing;
            }
        }

        void addPart(Row deed) {
            if (partCount < COVERED && deed.size <= COVERED_ROOM) {
                parts[partCount] = deed;
                partCount++;
            }
        }

        long howMany() {
            return many[0];
        }

        /** All states from the last one back: those that a LETTER leads to are settled before. */
        void solve() {
            int state = 1;
            for (int d = COVERED - 1; d >= 0; d--) {
                apart[d] = state;
                state *= parts[d].size + 1;
            }
            for (at[0] = parts[0].size; at[0] >= 0; at[0]--) {
                for (at[1] = parts[1].size; at[1] >= 0; at[1]--) {
                    for (at[2] = parts[2].size; at[2] >= 0; at[2]--) {
                        for (at[3] = parts[3].size; at[3] >= 0; at[3]--) {
                            state--;
                            settle(state);
                        }
                    }
                }
            }
            trace();
        }

        /** No LETTER of a shortest one is without use, and each leads to one state: so no row is counted twice. */
        private void settle(int state) {
            lookAhead();
            int least = NONE;
            long rows = 1;
            for (int d = 0; d < COVERED; d++) {
                if (ahead[d] != NONE) {
                    int next = state + takeLetter(d);
                    if (least == NONE || length[next] < least) {
                        least = length[next];
                        rows = many[next];
                    } else if (length[next] == least) {
                        rows += many[next];
                    }
                }
            }
            length[state] = least + 1;
            many[state] = rows;
        }

        private void lookAhead() {
            for (int d = 0; d < COVERED; d++) {
                ahead[d] = at[d] < parts[d].size ? parts[d].letters[at[d]] : NONE;
            }
        }

        /** How many states the LETTER ahead in one DEED leads on; it is ahead in none any more. */
        private int takeLetter(int d) {
            int letter = ahead[d];
            int on = 0;
            for (int e = d; e < COVERED; e++) {
                if (ahead[e] == letter) {
                    on += apart[e];
                    ahead[e] = NONE;
                }
            }
            return on;
        }

        private void trace() {
            first.size = 0;
            Arrays.fill(at, 0);
            int state = 0;
            for (int more = length[0]; more > 0; more--) {
                lookAhead();
                int letter = ALPHABET;
                int on = 0;
                for (int d = 0; d < COVERED; d++) {
                    int candidate = ahead[d];
                    if (candidate != NONE) {
                        int further = takeLetter(d);
                        if (candidate < letter && length[state + further] == more - 1) {
                            letter = candidate;
                            on = further;
                        }
                    }
                }
                first.add(letter);
                state += on;
                settleLetter(letter);
            }
        }

        private void settleLetter(int letter) {
            for (int d = 0; d < COVERED; d++) {
                if (parts[d].at(at[d]) == letter) {
                    at[d]++;
                }
            }
        }
    }

    /** THE DAY'S END: a state is the next DEED and the BLANKS (bits) that are given away. */
    private static final class Sharing {
        private static final int STATES = 1 << BLANKS;
        /** More than all LETTERS that can be lost, so that one DEED more counts first. */
        private static final int ONE_DEED = 1000;

        final int[] blankOf = new int[DEEDS];
        int served = 0;
        int lost = 0;
        /** The worth of a BLANK for a DEED; 0: it can't have it. */
        private final int[] gain = new int[DEEDS * BLANKS];
        private final int[] best = new int[(DEEDS + 1) * STATES];

        /** How many LETTERS are lost if the DEED gets the BLANK; NONE: it can't. */
        void weigh(int i, int b, int letters) {
            if (i >= 0 && i < DEEDS && b >= 0 && b < BLANKS) {
                gain[i * BLANKS + b] = letters < 0 ? 0 : ONE_DEED - letters;
            }
        }

        /** Only the first BLANKS are there to be given: the states of others are not asked for. */
        void solve(int blankCount) {
            int there = Math.max(0, Math.min(blankCount, BLANKS));
            for (int i = DEEDS - 1; i >= 0; i--) {
                for (int used = 0; used < 1 << there; used++) {
                    int most = best[(i + 1) * STATES + used];
                    for (int b = 0; b < there; b++) {
                        most = Math.max(most, withBlank(i, used, b));
                    }
                    best[i * STATES + used] = most;
                }
            }
        }

        /** NONE if the DEED can't have the BLANK. */
        private int withBlank(int i, int used, int b) {
            int more = gain[i * BLANKS + b];
            if (more == 0 || ((used >> b) & 1) == 1) {
                return NONE;
            }
            return more + best[(i + 1) * STATES + (used | (1 << b))];
        }

        /** The least row with all that can be had when some BLANKS are given away already. */
        void trace(int given) {
            int used = given & (STATES - 1);
            served = 0;
            lost = 0;
            for (int i = 0; i < DEEDS; i++) {
                int b = 0;
                while (b < BLANKS && withBlank(i, used, b) != best[i * STATES + used]) {
                    b++;
                }
                blankOf[i] = b;
                if (b < BLANKS) {
                    served++;
                    lost += ONE_DEED - gain[i * BLANKS + b];
                    used |= 1 << b;
                }
            }
        }
    }
}

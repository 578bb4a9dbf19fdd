import java.util.Arrays;

/**
 * A register of ships: acts that measure tons, hulls, the entries of their sixty-four parts, and
 * papers of burnt registers. A call that is refused answers below 0 and changes nothing.
 */
public final class HullRegister {
    /** A number is none, or none that may be. */
    public static final int NUMBER = -1;
    /** There are as many as may be. */
    public static final int FULL = -2;
    /** It is so already. */
    public static final int TWICE = -3;
    /** There is none. */
    public static final int NONE = -4;
    /** A text isn't good, or an entry is another one. */
    public static final int KIND = -5;
    /** What is answered for a number that can't be told. */
    public static final int NOTHING = -10000000;

    private static final int LAST_DAY = 999;
    private static final int MOST_MEASURE = 99;
    private static final int MOST_ROOMS = 999;

    private final Acts acts;
    private final Hulls hulls;
    private final Ledger ledger;
    private final Papers papers;

    public HullRegister() {
        acts = new Acts();
        hulls = new Hulls();
        ledger = new Ledger();
        papers = new Papers();
    }

    // ---- acts

    public int feed(int v) {
        return acts.takeLetters(v);
    }

    public int scrap() {
        return acts.dropLetters();
    }

    public int act(int day) {
        return acts.enact(day);
    }

    public int inForce(int day) {
        return isDay(day) ? acts.onDay(day) : NUMBER;
    }

    public int tons(int act, int length, int breadth, int depth, int rooms) {
        if (!acts.has(act) || !areSizes(length, breadth, depth, rooms)) {
            return NOTHING;
        }
        return acts.tonsBy(act, length, breadth, depth, rooms);
    }

    public int shape(int act, int cargo, int what) {
        if (!acts.has(act) || !isWithin(cargo, 1, Acts.SHAPES) || !isWithin(what, 0, 3)) {
            return NOTHING;
        }
        return acts.ofLeastShape(act, cargo, what);
    }

    // ---- hulls

    public int hull(int length, int breadth, int depth, int rooms) {
        if (!areSizes(length, breadth, depth, rooms)) {
            return NUMBER;
        }
        return hulls.add(length, breadth, depth, rooms);
    }

    public int alter(int hull, int length, int breadth, int depth, int rooms) {
        if (!hulls.has(hull) || !areSizes(length, breadth, depth, rooms)) {
            return NUMBER;
        }
        hulls.setSizes(hull, length, breadth, depth, rooms);
        return 1;
    }

    public int measure(int hull, int day) {
        if (!hulls.has(hull) || !isDay(day)) {
            return NUMBER;
        }
        int act = acts.onDay(day);
        if (!acts.has(act)) {
            return NONE;
        }
        int tons = acts.tonsBy(act, hulls.told(hull, Hulls.LENGTH), hulls.told(hull, Hulls.BREADTH),
                hulls.told(hull, Hulls.DEPTH), hulls.told(hull, Hulls.ROOMS));
        hulls.setMeasuring(hull, tons, day, act);
        return 1;
    }

    public int of(int hull, int what) {
        if (!hulls.has(hull) || !isWithin(what, 0, Hulls.COLUMNS - 1)) {
            return NOTHING;
        }
        return hulls.told(hull, what);
    }

    // ---- entries

    public int sell(int hull, int person, int other, int n) {
        return enter(Ledger.SALE, hull, person, other, n);
    }

    public int pledge(int hull, int person, int other, int n) {
        return enter(Ledger.PLEDGE, hull, person, other, n);
    }

    public int redeem(int entry) {
        return ledger.has(entry) ? ledger.addRedeem(entry) : NUMBER;
    }

    public int forge(int entry) {
        return ledger.has(entry) ? ledger.markForged(entry) : NUMBER;
    }

    public int entry(int entry, int what) {
        if (!ledger.has(entry) || !isWithin(what, 0, Ledger.COLUMNS - 1)) {
            return NUMBER;
        }
        return ledger.told(entry, what);
    }

    public int parts(int hull, int person, boolean free) {
        if (!hulls.has(hull) || !isPerson(person)) {
            return NUMBER;
        }
        return free ? ledger.freeParts(hull, person) : ledger.allParts(hull, person);
    }

    public int manager(int hull) {
        return hulls.has(hull) ? ledger.greatestOwner(hull) : NUMBER;
    }

    public int held(int hull, int person) {
        if (!hulls.has(hull) || !isPerson(person)) {
            return NUMBER;
        }
        return ledger.partsHeld(hull, person);
    }

    // ---- papers

    public int paper(int a, int b, int c, int d, int mark) {
        if (!isDay(a) || !isDay(b) || a > b || !isMeasure(c) || !isMeasure(d) || c > d
                || !isWithin(mark, 0, Papers.LAST_MARK)) {
            return NUMBER;
        }
        return papers.add(a, b, c, d, mark);
    }

    public int witness(int paper, int other, boolean yes) {
        return papers.areTwo(paper, other) ? papers.hear(paper, other, yes) : NUMBER;
    }

    public int alike(int paper, int other) {
        if (!papers.areTwo(paper, other)) {
            return NUMBER;
        }
        return papers.mayBeOne(paper, other) ? 1 : 0;
    }

    public int group(int paper) {
        return papers.has(paper) ? papers.joinedGroup(paper) : NUMBER;
    }

    public int groups() {
        return papers.joinedGroups();
    }

    public int many(int what) {
        switch (what) {
            case 0: return acts.size();
            case 1: return hulls.size();
            case 2: return ledger.size();
            case 3: return ledger.forgedEntries();
            case 4: return ledger.voidEntries();
            case 5: return ledger.standingPledges();
            case 6: return papers.size();
            case 7: return papers.witnesses();
            case 8: return acts.lettersFed();
            default: return NUMBER;
        }
    }

    private int enter(int which, int hull, int person, int other, int n) {
        if (!hulls.has(hull) || !isPerson(person) || !isPerson(other) || person == other
                || !isWithin(n, 1, Ledger.ALL_PARTS)) {
            return NUMBER;
        }
        return ledger.add(which, hull, person, other, n, NONE);
    }

    private static boolean isWithin(int n, int least, int most) {
        return least <= n && n <= most;
    }

    private static boolean isDay(int n) {
        return isWithin(n, 0, LAST_DAY);
    }

    private static boolean isMeasure(int n) {
        return isWithin(n, 1, MOST_MEASURE);
    }

    private static boolean areSizes(int length, int breadth, int depth, int rooms) {
        return isMeasure(length) && isMeasure(breadth) && isMeasure(depth)
                && isWithin(rooms, 0, MOST_ROOMS);
    }

    private static boolean isPerson(int n) {
        return isWithin(n, 0, Ledger.PERSONS - 1);
    }

    /** Reads a text with its pile. */
    private static final class Reckoner {
        static final int MOST_LETTERS = 40;
        /** No letter is 0, so that the first 0 ends a text in its row. */
        static final int END = 0;

        private static final int MOST_FIGURES = 4;
        private static final int MOST_PUSHED = 999999;

        private final int[] pile = new int[MOST_LETTERS];
        private int height;
        /** How many figures the number on top has, 0 where the next figure begins another one. */
        private int figures;
        private int length;
        private int breadth;
        private int depth;
        private int rooms;

        void setSizes(int newLength, int newBreadth, int newDepth, int newRooms) {
            length = newLength;
            breadth = newBreadth;
            depth = newDepth;
            rooms = newRooms;
        }

        /**
         * What is left of a text, NOTHING if it isn't good. Whether it is good doesn't hang on the
         * sizes, so that the same reading tries a text and measures by it.
         */
        int reckon(int[] text) {
            height = 0;
            figures = 0;
            for (int letter : text) {
                if (letter == END) {
                    break;
                }
                if (!read(letter)) {
                    return NOTHING;
                }
            }
            return height == 1 ? pile[0] : NOTHING;
        }

        private boolean read(int letter) {
            if (isWithin(letter, '0', '9')) {
                return readFigure(letter - '0');
            }
            figures = 0;
            switch (letter) {
                case ' ': return true;
                case 'l': return push(length);
                case 'b': return push(breadth);
                case 'd': return push(depth);
                case 'r': return push(rooms);
                case '!': return liftToZero();
                case '+':
                case '-':
                case '*':
                case '/': return joinTwo(letter);
                default: return false;
            }
        }

        private boolean readFigure(int figure) {
            figures++;
            if (figures == 1) {
                return push(figure);
            }
            if (figures > MOST_FIGURES || height < 1) {
                return false;
            }
            pile[height - 1] = pile[height - 1] * 10 + figure;
            return true;
        }

        private boolean push(int n) {
            if (height >= pile.length) {
                return false;
            }
            pile[height] = n;
            height++;
            return true;
        }

        private boolean liftToZero() {
            if (height < 1) {
                return false;
            }
            pile[height - 1] = Math.max(pile[height - 1], 0);
            return true;
        }

        private boolean joinTwo(int sign) {
            if (height < 2) {
                return false;
            }
            height--;
            pile[height - 1] = bounded(joined(sign, pile[height - 1], pile[height]));
            return true;
        }

        /** In long, since a product of two bounded numbers is beyond an int. */
        private static long joined(int sign, long lower, long upper) {
            switch (sign) {
                case '+': return lower + upper;
                case '-': return lower - upper;
                case '*': return lower * upper;
                default: return upper == 0 ? 0 : lower / upper;
            }
        }

        private static int bounded(long n) {
            if (n > MOST_PUSHED) {
                return MOST_PUSHED;
            }
            return n < -MOST_PUSHED ? -MOST_PUSHED : (int) n;
        }
    }

    /** The letters that are fed, and the acts that were made of such. */
    private static final class Acts {
        static final int MOST_SIDE = 12;
        static final int SHAPES = MOST_SIDE * MOST_SIDE * MOST_SIDE;

        private static final int MOST_ACTS = 5;
        private static final int LETTERS_OF_INT = 4;

        private final int[] fed = new int[Reckoner.MOST_LETTERS];
        private int fedCount;
        private final int[][] texts = new int[MOST_ACTS][Reckoner.MOST_LETTERS];
        private final int[] days = new int[MOST_ACTS];
        private int count;
        /** Tons of every shape by an act, once asked for: an act never changes. */
        private final int[][] shapeTons = new int[MOST_ACTS][0];
        private final Reckoner reckoner = new Reckoner();

        int size() {
            return count;
        }

        boolean has(int act) {
            return isWithin(act, 0, count - 1);
        }

        int lettersFed() {
            return fedCount;
        }

        int takeLetters(int v) {
            int more = lettersIn(v);
            if (fedCount + more > Reckoner.MOST_LETTERS) {
                return FULL;
            }
            for (int i = 0; i < more; i++) {
                fed[fedCount + i] = letterAt(v, i);
            }
            fedCount += more;
            return fedCount;
        }

        private static int lettersIn(int v) {
            int n = 0;
            while (n < LETTERS_OF_INT && letterAt(v, n) != Reckoner.END) {
                n++;
            }
            return n;
        }

        private static int letterAt(int v, int place) {
            return (v >>> (8 * place)) & 255;
        }

        int dropLetters() {
            int dropped = fedCount;
            Arrays.fill(fed, Reckoner.END);
            fedCount = 0;
            return dropped;
        }

        int enact(int day) {
            if (!isDay(day)) {
                return NUMBER;
            }
            if (count >= MOST_ACTS) {
                return FULL;
            }
            if (reckoner.reckon(fed) == NOTHING) {
                return KIND;
            }
            System.arraycopy(fed, 0, texts[count], 0, fed.length);
            days[count] = day;
            dropLetters();
            count++;
            return count - 1;
        }

        int onDay(int day) {
            int best = NONE;
            for (int i = 0; i < count; i++) {
                if (days[i] <= day && (best < 0 || days[i] >= days[best])) {
                    best = i;
                }
            }
            return best;
        }

        int tonsBy(int act, int length, int breadth, int depth, int rooms) {
            reckoner.setSizes(length, breadth, depth, rooms);
            return reckoner.reckon(texts[act]);
        }

        int ofLeastShape(int act, int cargo, int what) {
            int[] tons = tonsOfShapes(act);
            int shape = leastShape(tons, cargo);
            switch (what) {
                case 0: return lengthOf(shape);
                case 1: return breadthOf(shape);
                case 2: return depthOf(shape);
                default: return tons[shape];
            }
        }

        private int[] tonsOfShapes(int act) {
            if (shapeTons[act].length < SHAPES) {
                int[] tons = new int[SHAPES];
                for (int i = 0; i < SHAPES; i++) {
                    tons[i] = tonsBy(act, lengthOf(i), breadthOf(i), depthOf(i), 0);
                }
                shapeTons[act] = tons;
            }
            return shapeTons[act];
        }

        /** Goes down from the greatest shape, which bears any cargo, so that the first of like ones wins. */
        private static int leastShape(int[] tons, int cargo) {
            int best = SHAPES - 1;
            for (int i = best; i >= 0; i--) {
                if (tons[i] <= tons[best] && lengthOf(i) * breadthOf(i) * depthOf(i) >= cargo) {
                    best = i;
                }
            }
            return best;
        }

        // Shapes are numbered by length, then breadth, then depth: the order in which like ones win.

        private static int lengthOf(int shape) {
            return shape / (MOST_SIDE * MOST_SIDE) + 1;
        }

        private static int breadthOf(int shape) {
            return shape / MOST_SIDE % MOST_SIDE + 1;
        }

        private static int depthOf(int shape) {
            return shape % MOST_SIDE + 1;
        }
    }

    /** A row of columns for each hull, in the order in which of() tells them. */
    private static final class Hulls {
        static final int MOST_HULLS = 5;
        static final int LENGTH = 0;
        static final int BREADTH = 1;
        static final int DEPTH = 2;
        static final int ROOMS = 3;
        static final int COLUMNS = 7;

        private static final int TONS = 4;
        private static final int DAY = 5;
        private static final int ACT = 6;

        private final int[] table = new int[MOST_HULLS * COLUMNS];
        private int count;

        int size() {
            return count;
        }

        boolean has(int hull) {
            return isWithin(hull, 0, count - 1);
        }

        int told(int hull, int column) {
            return table[hull * COLUMNS + column];
        }

        int add(int length, int breadth, int depth, int rooms) {
            if (count >= MOST_HULLS) {
                return FULL;
            }
            setSizes(count, length, breadth, depth, rooms);
            setMeasuring(count, NOTHING, NOTHING, NOTHING);
            count++;
            return count - 1;
        }

        void setSizes(int hull, int length, int breadth, int depth, int rooms) {
            int row = hull * COLUMNS;
            table[row + LENGTH] = length;
            table[row + BREADTH] = breadth;
            table[row + DEPTH] = depth;
            table[row + ROOMS] = rooms;
        }

        void setMeasuring(int hull, int tons, int day, int act) {
            int row = hull * COLUMNS;
            table[row + TONS] = tons;
            table[row + DAY] = day;
            table[row + ACT] = act;
        }
    }

    /**
     * The entries, a row of columns each in the order in which entry() tells them, and how it
     * stands by them, which is gone through anew whenever an entry comes or is forged.
     */
    private static final class Ledger {
        static final int PERSONS = 8;
        static final int ALL_PARTS = 64;
        static final int SALE = 0;
        static final int PLEDGE = 1;
        static final int COLUMNS = 9;

        private static final int REDEEM = 2;
        private static final int MOST_ENTRIES = 60;
        private static final int ACCOUNTS = Hulls.MOST_HULLS * PERSONS;
        private static final int WHICH = 0;
        private static final int HULL = 1;
        private static final int FIRST = 2;
        private static final int OTHER = 3;
        private static final int AMOUNT = 4;
        private static final int FORGED = 5;
        private static final int VOID = 6;
        private static final int RANK = 7;
        private static final int REDEEMED = 8;

        private final int[] table = new int[MOST_ENTRIES * COLUMNS];
        private final boolean[] stands = new boolean[MOST_ENTRIES];
        private int count;
        // An account is what one person has of one hull.
        private final int[] firstAccounts = new int[MOST_ENTRIES];
        private final int[] otherAccounts = new int[MOST_ENTRIES];
        private final int[] owned = new int[ACCOUNTS];
        private final int[] pledged = new int[ACCOUNTS];
        private final int[] heldInPledge = new int[ACCOUNTS];
        private final int[] pledges = new int[ACCOUNTS];

        Ledger() {
            goThrough();
        }

        int size() {
            return count;
        }

        boolean has(int entry) {
            return isWithin(entry, 0, count - 1);
        }

        int told(int entry, int column) {
            return table[entry * COLUMNS + column];
        }

        int addRedeem(int pledge) {
            if (told(pledge, WHICH) != PLEDGE) {
                return KIND;
            }
            return add(REDEEM, told(pledge, HULL), told(pledge, FIRST), told(pledge, OTHER),
                    told(pledge, AMOUNT), pledge);
        }

        int add(int which, int hull, int person, int other, int n, int redeemed) {
            if (count >= MOST_ENTRIES) {
                return FULL;
            }
            firstAccounts[count] = account(hull, person);
            otherAccounts[count] = account(hull, other);
            put(count, WHICH, which);
            put(count, HULL, hull);
            put(count, FIRST, person);
            put(count, OTHER, other);
            put(count, AMOUNT, n);
            put(count, REDEEMED, redeemed);
            count++;
            goThrough();
            return count - 1;
        }

        int markForged(int entry) {
            if (isForged(entry)) {
                return TWICE;
            }
            put(entry, FORGED, 1);
            goThrough();
            return 1;
        }

        int allParts(int hull, int person) {
            return owned[account(hull, person)];
        }

        int freeParts(int hull, int person) {
            return freeOf(account(hull, person));
        }

        int partsHeld(int hull, int person) {
            return heldInPledge[account(hull, person)];
        }

        int greatestOwner(int hull) {
            int best = 0;
            for (int person = 1; person < PERSONS; person++) {
                if (allParts(hull, person) > allParts(hull, best)) {
                    best = person;
                }
            }
            return best;
        }

        int forgedEntries() {
            return sumOf(FORGED);
        }

        int voidEntries() {
            return sumOf(VOID);
        }

        int standingPledges() {
            int standing = 0;
            for (int i = 0; i < count; i++) {
                standing += stands[i] ? 1 : 0;
            }
            return standing;
        }

        private int sumOf(int column) {
            int sum = 0;
            for (int i = 0; i < count; i++) {
                sum += told(i, column);
            }
            return sum;
        }

        private void put(int entry, int column, int value) {
            table[entry * COLUMNS + column] = value;
        }

        private boolean isForged(int entry) {
            return told(entry, FORGED) == 1;
        }

        private static int account(int hull, int person) {
            return hull * PERSONS + person;
        }

        private int freeOf(int account) {
            return owned[account] - pledged[account];
        }

        private void goThrough() {
            beginAnew();
            for (int i = 0; i < count; i++) {
                put(i, VOID, isForged(i) || takesEffect(i) ? 0 : 1);
            }
            rankPledges();
        }

        private void beginAnew() {
            Arrays.fill(owned, 0);
            Arrays.fill(pledged, 0);
            Arrays.fill(heldInPledge, 0);
            for (int hull = 0; hull < Hulls.MOST_HULLS; hull++) {
                owned[account(hull, 0)] = ALL_PARTS;
            }
            for (int i = 0; i < count; i++) {
                stands[i] = false;
            }
        }

        private boolean takesEffect(int entry) {
            switch (told(entry, WHICH)) {
                case SALE: return bringParts(entry);
                case PLEDGE: return beginPledge(entry);
                default: return endPledge(told(entry, REDEEMED));
            }
        }

        private boolean bringParts(int sale) {
            int seller = firstAccounts[sale];
            int n = told(sale, AMOUNT);
            if (n > freeOf(seller)) {
                return false;
            }
            owned[seller] -= n;
            owned[otherAccounts[sale]] += n;
            return true;
        }

        private boolean beginPledge(int pledge) {
            if (told(pledge, AMOUNT) > freeOf(firstAccounts[pledge])) {
                return false;
            }
            setStanding(pledge, true);
            return true;
        }

        private boolean endPledge(int pledge) {
            if (!has(pledge) || !stands[pledge]) {
                return false;
            }
            setStanding(pledge, false);
            return true;
        }

        private void setStanding(int pledge, boolean standing) {
            int n = standing ? told(pledge, AMOUNT) : -told(pledge, AMOUNT);
            stands[pledge] = standing;
            pledged[firstAccounts[pledge]] += n;
            heldInPledge[otherAccounts[pledge]] += n;
        }

        private void rankPledges() {
            Arrays.fill(pledges, 0);
            for (int i = 0; i < count; i++) {
                put(i, RANK, NONE);
                if (stands[i]) {
                    int pledger = firstAccounts[i];
                    put(i, RANK, pledges[pledger]);
                    pledges[pledger]++;
                }
            }
        }
    }

    /** The papers, which of them may be of one hull, and their joining. Sets of papers are bits. */
    private static final class Papers {
        static final int LAST_MARK = 9;

        private static final int MOST_PAPERS = 8;
        private static final int MOST_WITNESSES = 6;

        private final int[] firstDays = new int[MOST_PAPERS];
        private final int[] lastDays = new int[MOST_PAPERS];
        private final int[] leastLengths = new int[MOST_PAPERS];
        private final int[] mostLengths = new int[MOST_PAPERS];
        private final int[] marks = new int[MOST_PAPERS];
        private int count;
        private final int[] likes = new int[MOST_PAPERS];
        private final int[] witnessed = new int[MOST_PAPERS];
        private int witnessCount;
        private final int[] groupOf = new int[MOST_PAPERS];
        private final int[] members = new int[MOST_PAPERS];
        private int groupCount;

        int size() {
            return count;
        }

        int witnesses() {
            return witnessCount;
        }

        boolean has(int paper) {
            return isWithin(paper, 0, count - 1);
        }

        boolean areTwo(int paper, int other) {
            return has(paper) && has(other) && paper != other;
        }

        boolean mayBeOne(int paper, int other) {
            return isIn(other, likes[paper]);
        }

        int joinedGroup(int paper) {
            return groupOf[paper];
        }

        int joinedGroups() {
            return groupCount;
        }

        int add(int firstDay, int lastDay, int leastLength, int mostLength, int mark) {
            if (count >= MOST_PAPERS) {
                return FULL;
            }
            firstDays[count] = firstDay;
            lastDays[count] = lastDay;
            leastLengths[count] = leastLength;
            mostLengths[count] = mostLength;
            marks[count] = mark;
            for (int i = 0; i < count; i++) {
                setLike(i, count, seemAlike(i, count));
            }
            count++;
            joinAnew();
            return count - 1;
        }

        int hear(int paper, int other, boolean yes) {
            if (isIn(other, witnessed[paper])) {
                return TWICE;
            }
            if (witnessCount >= MOST_WITNESSES) {
                return FULL;
            }
            witnessed[paper] |= 1 << other;
            witnessed[other] |= 1 << paper;
            witnessCount++;
            setLike(paper, other, yes);
            joinAnew();
            return witnessCount;
        }

        private static boolean isIn(int paper, int set) {
            return (set >> paper & 1) == 1;
        }

        private void setLike(int paper, int other, boolean yes) {
            likes[paper] = yes ? likes[paper] | 1 << other : likes[paper] & ~(1 << other);
            likes[other] = yes ? likes[other] | 1 << paper : likes[other] & ~(1 << paper);
        }

        /** Without witnesses. */
        private boolean seemAlike(int paper, int other) {
            boolean daysMeet = firstDays[paper] <= lastDays[other] && firstDays[other] <= lastDays[paper];
            boolean lengthsMeet = leastLengths[paper] <= mostLengths[other]
                    && leastLengths[other] <= mostLengths[paper];
            boolean marksLet = marks[paper] == marks[other] || marks[paper] == 0 || marks[other] == 0;
            return !daysMeet && lengthsMeet && marksLet;
        }

        /** Each paper alone is a joining, so that some number of groups up to count will do. */
        private void joinAnew() {
            for (int most = 1; most <= count; most++) {
                Arrays.fill(members, 0);
                if (placeFrom(0, 0, most)) {
                    groupCount = most;
                    return;
                }
            }
        }

        /** Lesser groups are tried first, so that what is found first is the joining that is due. */
        private boolean placeFrom(int paper, int used, int most) {
            if (paper >= count) {
                return true;
            }
            int last = Math.min(used, most - 1);
            for (int group = 0; group <= last; group++) {
                if (placeInto(group, paper, used, most)) {
                    return true;
                }
            }
            return false;
        }

        private boolean placeInto(int group, int paper, int used, int most) {
            if ((members[group] & ~likes[paper]) != 0) {
                return false;
            }
            members[group] |= 1 << paper;
            groupOf[paper] = group;
            if (placeFrom(paper + 1, Math.max(used, group + 1), most)) {
                return true;
            }
            members[group] &= ~(1 << paper);
            return false;
        }
    }
}

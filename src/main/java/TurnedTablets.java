import java.util.Arrays;

/** Bands by turned tablets: looms told in a text, picks woven on them, and what can be asked of both. */
public final class TurnedTablets {
    public static final int BAD = -1, NO = -2, FULL = -3, NONE = -4;

    private static final String FIRST_TEXT =
        "t0,0,1123;t0,1,2231;t1,0,1212;t2,1,3312;t0,0,1231;t3,1,2213;p012345;p024;p135;p05;l16;d0f1f2b0f;";

    private static final int MOST_LETTERS = 200;
    private static final int MOST_TABLETS = 6;
    private static final int MOST_PACKS = 6;
    private static final int MOST_PICKS = 8;
    private static final int MOST_ROWS = 24;
    private static final int MOST_SEEN = 6;
    private static final int MOST_UNDONE = 8;
    // A power of two, less 1: what is cut to its bits is always a place of the ring.
    private static final int UNDO_RING = MOST_UNDONE - 1;
    private static final int MOST_KEPT = 2;
    private static final int MOST_DRAFTS = 60;
    private static final int MOST_TWIST = 40;
    private static final int MOST_FLOATS = 99;
    private static final int LONG_FLOAT = 4;
    private static final int USUAL_LIMIT = 20;
    private static final int HOLES = 4;
    private static final int TENTHS = 10;
    private static final int MOST_Z = 9999;
    private static final int MOST_DRAWS = 60;

    private static final int FORWARD = 0;
    private static final int BACK = 1;

    private static final int PLAIN = 0;
    private static final int DOUBLE = 1;
    private static final int CONTRARY = 2;
    private static final int LAME = 3;

    private static final int TURNED = 0;
    private static final int STAYED = 1;
    private static final int JAMS = 2;

    // Holes on top are told as one number, two bits a tablet: there are 4 to the 6th of them.
    private static final int MOST_TOPS = 4096;
    private static final int LOW_BITS = 0x555;
    private static final int HIGH_BITS = 0xAAA;

    private final StringBuilder text;
    private final Loom loom;
    private final Reader reader;
    private final Cloth cloth;
    private final Cloth trial;
    private final Cloth[] undoable;
    private int undoEnd;
    private int undoCount;
    private final Cloth[] kept;
    private int keptCount;
    private final int[] seen;
    private int seenCount;
    private final Search search;

    public TurnedTablets() {
        text = new StringBuilder();
        loom = new Loom();
        reader = new Reader(text);
        cloth = new Cloth();
        trial = new Cloth();
        undoable = new Cloth[MOST_UNDONE];
        for (int i = 0; i < MOST_UNDONE; i++) {
            undoable[i] = new Cloth();
        }
        kept = new Cloth[MOST_KEPT];
        for (int i = 0; i < MOST_KEPT; i++) {
            kept[i] = new Cloth();
        }
        seen = new int[MOST_SEEN];
        search = new Search();
        text.append(FIRST_TEXT);
        lay();
        text.setLength(0);
    }

    // ---- looms

    public int write(int letter) {
        if (letter < 32 || letter > 126) {
            return BAD;
        }
        if (text.length() >= MOST_LETTERS) {
            return FULL;
        }
        text.append((char) letter);
        return text.length();
    }

    public int wipe() {
        int length = text.length();
        text.setLength(0);
        return length;
    }

    public int fault() {
        return reader.readText();
    }

    public int lay() {
        if (reader.readText() != NONE || reader.told.tablets == 0 || reader.told.packs == 0) {
            return NO;
        }
        loom.copyFrom(reader.told);
        cloth.start(loom);
        seenCount = 0;
        undoCount = 0;
        keptCount = 0;
        return loom.tablets;
    }

    public int tablet(int t, int what) {
        if (!isTablet(t)) {
            return BAD;
        }
        switch (what) {
            case 0:
                return loom.kind(t);
            case 1:
                return cloth.get(t, Cloth.THREADED);
            case 2:
                return cloth.get(t, Cloth.HOLE);
            case 3:
                return loom.colour(t, cloth.get(t, Cloth.HOLE));
            case 4:
                return cloth.get(t, Cloth.TWIST) + MOST_TWIST;
            case 5:
                return cloth.get(t, Cloth.FLOATS);
            case 6:
                return cloth.slant(t);
            default:
                return BAD;
        }
    }

    public int hole(int t, int h) {
        if (!isTablet(t) || h < 0 || h >= HOLES) {
            return BAD;
        }
        return loom.colour(t, h);
    }

    public int pack(int p) {
        return isPack(p) ? loom.members(p) : BAD;
    }

    public int draft(int k) {
        if (k < 0) {
            return BAD;
        }
        return k < loom.picks ? loom.pick(k) : NONE;
    }

    public int top(int what) {
        if (what == 0) {
            return loom.coloursOf(cloth.tops());
        }
        return what == 1 ? cloth.slants(loom.tablets) : BAD;
    }

    public int row(int k, int what) {
        if (k < 0 || what < 0 || what > 1) {
            return BAD;
        }
        if (k >= cloth.rows) {
            return NONE;
        }
        return what == 0 ? cloth.rowColours(k) : cloth.rowSlants(k);
    }

    // ---- weaving

    public int weave(int p, int way) {
        if (!isPack(p) || !isWay(way)) {
            return BAD;
        }
        if (cloth.rows >= MOST_ROWS) {
            return FULL;
        }
        remember();
        cloth.weavePick(loom, p, way);
        return loom.coloursOf(cloth.tops());
    }

    public int again() {
        if (loom.picks == 0) {
            return NO;
        }
        if (cloth.rows >= MOST_ROWS) {
            return FULL;
        }
        remember();
        int before = cloth.rows;
        for (int k = 0; k < loom.picks && cloth.rows < MOST_ROWS; k++) {
            cloth.weavePick(loom, loom.pickPack(k), loom.pickWay(k));
        }
        return cloth.rows - before;
    }

    public int unweave() {
        if (cloth.rows == 0) {
            return NO;
        }
        remember();
        cloth.unweaveRow();
        return cloth.rows;
    }

    public int turn(int t, int way) {
        if (!isTablet(t) || !isWay(way)) {
            return BAD;
        }
        if (cloth.outcome(loom, t, way) == JAMS) {
            return NO;
        }
        remember();
        cloth.turnTablet(loom, t, way);
        return cloth.get(t, Cloth.HOLE);
    }

    public int flip(int t) {
        if (!isTablet(t)) {
            return BAD;
        }
        remember();
        cloth.set(t, Cloth.THREADED, 1 - cloth.get(t, Cloth.THREADED));
        return cloth.get(t, Cloth.THREADED);
    }

    public int comb(int t) {
        if (!isTablet(t)) {
            return BAD;
        }
        remember();
        int twistWas = cloth.get(t, Cloth.TWIST);
        cloth.set(t, Cloth.TWIST, 0);
        return twistWas + MOST_TWIST;
    }

    public int cut() {
        remember();
        int rowsWere = cloth.rows;
        cloth.rows = 0;
        return rowsWere;
    }

    public int undo() {
        if (undoCount == 0) {
            return NO;
        }
        undoEnd--;
        undoCount--;
        cloth.copyFrom(undoable[undoEnd & UNDO_RING]);
        return undoCount;
    }

    // ---- drafts, rows

    public int round() {
        if (loom.picks == 0) {
            return NONE;
        }
        int step = 0;
        for (int k = 0; k < loom.picks; k++) {
            step = addTops(step, loom.step(loom.pickPack(k), loom.pickWay(k)));
        }
        // Four quarters bring every tablet round, so only 1, 2 and 4 are possible.
        if (step == 0) {
            return 1;
        }
        return addTops(step, step) == 0 ? 2 : 4;
    }

    public int twist(int t) {
        if (!isTablet(t)) {
            return BAD;
        }
        int gathered = 0;
        for (int k = 0; k < loom.picks; k++) {
            if (loom.isMember(loom.pickPack(k), t)) {
                gathered += loom.quarters(t, loom.pickWay(k));
            }
        }
        return gathered + MOST_TWIST;
    }

    public int jammed() {
        trial.copyFrom(cloth);
        for (int time = 1; time <= MOST_DRAFTS; time++) {
            for (int k = 0; k < loom.picks; k++) {
                if (trial.turnPack(loom, loom.pickPack(k), loom.pickWay(k)) > 0) {
                    return time;
                }
            }
        }
        return NONE;
    }

    public int fewest(int colours, int k) {
        if (!loom.areColours(colours) || k < -1) {
            return BAD;
        }
        int end = search.seek(loom, cloth.tops(), colours);
        if (end < 0) {
            return NONE;
        }
        int picks = search.stepsTo(end);
        if (k == -1) {
            return picks;
        }
        return k < picks ? search.pickAt(end, picks - 1 - k) : NONE;
    }

    public int can() {
        search.reach(loom, cloth.tops(), allPacks());
        return search.countRows(loom);
    }

    public int needs(int colours) {
        if (!loom.areColours(colours)) {
            return BAD;
        }
        int tops = cloth.tops();
        if (!search.reaches(loom, tops, allPacks(), colours)) {
            return NONE;
        }
        for (int size = 0; size <= loom.packs; size++) {
            for (int set = 0; set <= allPacks(); set++) {
                if (Integer.bitCount(set) == size && search.reaches(loom, tops, set, colours)) {
                    return set;
                }
            }
        }
        return NONE;
    }

    // ---- what was seen

    public int see(int colours) {
        if (!loom.areColours(colours)) {
            return BAD;
        }
        if (seenCount >= MOST_SEEN) {
            return FULL;
        }
        seen[seenCount] = colours;
        seenCount++;
        return seenCount;
    }

    public int forget() {
        int seenWere = seenCount;
        seenCount = 0;
        return seenWere;
    }

    public int ways() {
        return search.countWays(loom, cloth.tops(), seen, seenCount);
    }

    public int lies() {
        return search.countStarts(loom, seen, seenCount);
    }

    public int amiss(int colours) {
        if (!loom.areColours(colours)) {
            return BAD;
        }
        int tops = cloth.tops();
        int found = 0;
        for (int t = 0; t < loom.tablets; t++) {
            if (loom.shows(addTops(tops, topOf(t, 1)), colours)) {
                found |= 1 << t;
            }
            if (loom.shows(addTops(tops, topOf(t, HOLES - 1)), colours)) {
                found |= 1 << (t + MOST_TABLETS);
            }
        }
        return found;
    }

    // ---- slips, bands

    public int slips(int p, int way, int x, int part) {
        if (!isPack(p) || !isWay(way) || x < 0 || x > TENTHS || part < 0 || part > 1) {
            return BAD;
        }
        int above = 1;
        int below = 1;
        for (int t = 0; t < loom.tablets; t++) {
            if (loom.isMember(p, t) && cloth.showsTurn(loom, t, way)) {
                above *= TENTHS - x;
                below *= TENTHS;
            }
        }
        int divisor = commonDivisor(above, below);
        return (part == 0 ? above : below) / (divisor > 0 ? divisor : 1);
    }

    public int bands(int z, int n, int what) {
        if (z < 0 || z > MOST_Z || n < 1 || n > MOST_DRAWS || what < 0 || what > 1) {
            return BAD;
        }
        trial.copyFrom(cloth);
        int woven = 0;
        int jams = 0;
        for (int k = 0; k < n; k++) {
            int draw = drawOf(z, k);
            if (draw % 8 == 7) {
                trial.rows = 0;
            } else if (draw % 8 == 6) {
                combDrawn(draw);
            } else if (trial.rows < MOST_ROWS && loom.packs > 0) {
                jams += trial.weavePick(loom, draw / 8 % loom.packs, draw / 64 % 2);
                woven++;
            }
        }
        return what == 0 ? woven : jams;
    }

    public int keep() {
        if (keptCount >= MOST_KEPT) {
            return FULL;
        }
        kept[keptCount].copyFrom(cloth);
        keptCount++;
        return keptCount;
    }

    public int back() {
        if (keptCount == 0) {
            return NO;
        }
        keptCount--;
        cloth.copyFrom(kept[keptCount]);
        undoCount = 0;
        return keptCount;
    }

    public int count(int what) {
        switch (what) {
            case 0:
                return loom.tablets;
            case 1:
                return loom.packs;
            case 2:
                return loom.picks;
            case 3:
                return loom.limit;
            case 4:
                return cloth.rows;
            case 5:
                return cloth.longFloats(loom.tablets);
            case 6:
                return seenCount;
            case 7:
                return undoCount;
            case 8:
                return keptCount;
            case 9:
                return text.length();
            default:
                return BAD;
        }
    }

    private boolean isTablet(int t) {
        return t >= 0 && t < loom.tablets;
    }

    private boolean isPack(int p) {
        return p >= 0 && p < loom.packs;
    }

    private static boolean isWay(int way) {
        return way == FORWARD || way == BACK;
    }

    private int allPacks() {
        return (1 << loom.packs) - 1;
    }

    /** What stands now can be brought back by undo; the oldest of eight gives way. */
    private void remember() {
        undoable[undoEnd & UNDO_RING].copyFrom(cloth);
        undoEnd++;
        undoCount = Math.min(undoCount + 1, MOST_UNDONE);
    }

    private static int drawOf(int z, int k) {
        long x = 7919L * z + 6151L * k + 1L;
        return (int) ((x * x) % 65521L);
    }

    private void combDrawn(int draw) {
        if (loom.tablets > 0) {
            trial.set(draw / 8 % loom.tablets, Cloth.TWIST, 0);
        }
    }

    /** Of two numbers from 0 to a million, not both 0. */
    private static int commonDivisor(int first, int second) {
        int a = first;
        int b = second;
        for (int step = 0; step < 100 && b > 0; step++) {
            int rest = a % b;
            a = b;
            b = rest;
        }
        return a;
    }

    /** Each tablet's holes are added for themselves, modulo 4. */
    private static int addTops(int a, int b) {
        return ((a & LOW_BITS) + (b & LOW_BITS)) ^ ((a ^ b) & HIGH_BITS);
    }

    private static int topOf(int t, int hole) {
        return hole << (2 * t);
    }

    /** A loom as a text tells it: what does not change by weaving. */
    private static final class Loom {
        private int tablets;
        private int packs;
        private int picks;
        private int limit;
        private final int[] kinds = new int[MOST_TABLETS];
        private final int[] threadings = new int[MOST_TABLETS];
        private final int[] threads = new int[MOST_TABLETS * HOLES];
        private final int[] firstAlike = new int[MOST_TABLETS * HOLES];
        private final int[] packSets = new int[MOST_PACKS];
        private final int[] draftPicks = new int[MOST_PICKS];

        private void clear() {
            tablets = 0;
            packs = 0;
            picks = 0;
            limit = USUAL_LIMIT;
        }

        private void copyFrom(Loom other) {
            tablets = other.tablets;
            packs = other.packs;
            picks = other.picks;
            limit = other.limit;
            System.arraycopy(other.kinds, 0, kinds, 0, MOST_TABLETS);
            System.arraycopy(other.threadings, 0, threadings, 0, MOST_TABLETS);
            System.arraycopy(other.threads, 0, threads, 0, MOST_TABLETS * HOLES);
            System.arraycopy(other.firstAlike, 0, firstAlike, 0, MOST_TABLETS * HOLES);
            System.arraycopy(other.packSets, 0, packSets, 0, MOST_PACKS);
            System.arraycopy(other.draftPicks, 0, draftPicks, 0, MOST_PICKS);
        }

        private int kind(int t) {
            return t >= 0 && t < MOST_TABLETS ? kinds[t] : PLAIN;
        }

        private int threading(int t) {
            return t >= 0 && t < MOST_TABLETS ? threadings[t] : 0;
        }

        private int colour(int t, int h) {
            return t >= 0 && t < MOST_TABLETS && h >= 0 && h < HOLES ? threads[t * HOLES + h] : 0;
        }

        private int members(int p) {
            return p >= 0 && p < MOST_PACKS ? packSets[p] : 0;
        }

        private boolean isMember(int p, int t) {
            return (members(p) >> t & 1) == 1;
        }

        private int pick(int k) {
            return k >= 0 && k < MOST_PICKS ? draftPicks[k] : 0;
        }

        private int pickPack(int k) {
            return pick(k) / 10;
        }

        private int pickWay(int k) {
            return pick(k) % 10;
        }

        private boolean addTablet(int kind, int threading, int rowOfThreads) {
            if (tablets >= MOST_TABLETS) {
                return false;
            }
            kinds[tablets] = kind;
            threadings[tablets] = threading;
            int rest = rowOfThreads;
            for (int h = HOLES - 1; h >= 0; h--) {
                threads[tablets * HOLES + h] = rest % 10;
                rest /= 10;
            }
            for (int h = 0; h < HOLES; h++) {
                firstAlike[tablets * HOLES + h] = findFirstAlike(tablets, h);
            }
            tablets++;
            return true;
        }

        private int findFirstAlike(int t, int hole) {
            for (int h = 0; h < hole; h++) {
                if (colour(t, h) == colour(t, hole)) {
                    return h;
                }
            }
            return hole;
        }

        private boolean addPack(int set) {
            if (packs >= MOST_PACKS) {
                return false;
            }
            packSets[packs] = set;
            packs++;
            return true;
        }

        private boolean addPick(int pack, int way) {
            if (picks >= MOST_PICKS) {
                return false;
            }
            draftPicks[picks] = 10 * pack + way;
            picks++;
            return true;
        }

        /** By how many quarters forward a tablet is turned, if it does not jam. */
        private int quarters(int t, int way) {
            int sign = way == FORWARD ? 1 : -1;
            switch (kind(t)) {
                case DOUBLE:
                    return 2 * sign;
                case CONTRARY:
                    return -sign;
                case LAME:
                    return way == FORWARD ? 1 : 0;
                default:
                    return sign;
            }
        }

        /** What a pick adds to the holes on top, whatever twist. */
        private int step(int p, int way) {
            int sum = 0;
            for (int t = 0; t < tablets; t++) {
                if (isMember(p, t)) {
                    sum |= topOf(t, quarters(t, way) & HOLES - 1);
                }
            }
            return sum;
        }

        private int coloursOf(int tops) {
            int number = 0;
            for (int t = 0; t < tablets; t++) {
                number = number * 10 + colour(t, tops >> (2 * t) & HOLES - 1);
            }
            return number;
        }

        /** As coloursOf, but done with at the first tablet that differs: searches ask this most. */
        private boolean shows(int tops, int colours) {
            int rest = colours;
            for (int t = tablets - 1; t >= 0; t--) {
                if (colour(t, tops >> (2 * t) & HOLES - 1) != rest % 10) {
                    return false;
                }
                rest /= 10;
            }
            return rest == 0;
        }

        private boolean areColours(int number) {
            int bound = 1;
            for (int t = 0; t < tablets; t++) {
                bound *= 10;
            }
            return number >= 0 && number < bound;
        }

        /** For each tablet the first hole of the same colour: alike for like rows alone. */
        private int firstAlikeOf(int tops) {
            int first = 0;
            for (int t = 0; t < tablets && t < MOST_TABLETS; t++) {
                first |= topOf(t, firstAlike[t * HOLES + (tops >> (2 * t) & HOLES - 1)]);
            }
            return first;
        }
    }

    /** Reads a text item by item into a loom of its own, so that a fault leaves the laid one as it is. */
    private static final class Reader {
        private final StringBuilder letters;
        private final Loom told = new Loom();
        private int place;

        private Reader(StringBuilder text) {
            letters = text;
        }

        /** The place of the first item that is not so, or NONE. */
        private int readText() {
            place = 0;
            told.clear();
            for (int items = 0; items < MOST_LETTERS && place < letters.length(); items++) {
                int start = place;
                if (!readItem()) {
                    return start;
                }
            }
            return NONE;
        }

        private boolean readItem() {
            switch (nextLetter()) {
                case 't':
                    return readTablet();
                case 'p':
                    return readPack();
                case 'l':
                    return readLimit();
                case 'd':
                    return readDraft();
                default:
                    return false;
            }
        }

        private boolean readTablet() {
            int kind = readNumber();
            if (kind < PLAIN || kind > LAME || nextLetter() != ',') {
                return false;
            }
            int threading = readNumber();
            if (threading < 0 || threading > 1 || nextLetter() != ',') {
                return false;
            }
            int threads = 0;
            for (int h = 0; h < HOLES; h++) {
                int colour = readFigure();
                if (colour < 0) {
                    return false;
                }
                threads = threads * 10 + colour;
            }
            return nextLetter() == ';' && told.addTablet(kind, threading, threads);
        }

        private boolean readPack() {
            int set = 0;
            for (int i = 0; i < MOST_TABLETS && letterHere() != ';'; i++) {
                int t = readFigure();
                if (t < 0 || t >= told.tablets || (set >> t & 1) == 1) {
                    return false;
                }
                set |= 1 << t;
            }
            return set != 0 && nextLetter() == ';' && told.addPack(set);
        }

        private boolean readLimit() {
            int limit = readNumber();
            if (limit < 1 || limit > MOST_TWIST || nextLetter() != ';') {
                return false;
            }
            told.limit = limit;
            return true;
        }

        private boolean readDraft() {
            told.picks = 0;
            for (int k = 0; k < MOST_PICKS && letterHere() != ';'; k++) {
                int pack = readFigure();
                int way = wayOf(nextLetter());
                if (pack < 0 || pack >= told.packs || way < 0 || !told.addPick(pack, way)) {
                    return false;
                }
            }
            return told.picks > 0 && nextLetter() == ';';
        }

        private static int wayOf(int letter) {
            if (letter == 'f') {
                return FORWARD;
            }
            return letter == 'b' ? BACK : -1;
        }

        /** 0 behind the end: that is no letter of a text. */
        private int letterHere() {
            return place < letters.length() ? letters.charAt(place) : 0;
        }

        private int nextLetter() {
            int letter = letterHere();
            if (place < letters.length()) {
                place++;
            }
            return letter;
        }

        /** A single figure, or -1 without moving on. */
        private int readFigure() {
            int letter = letterHere();
            if (letter < '0' || letter > '9') {
                return -1;
            }
            place++;
            return letter - '0';
        }

        /** A number of one or two figures, or -1. */
        private int readNumber() {
            int first = readFigure();
            int second = first < 0 ? -1 : readFigure();
            return second < 0 ? first : first * 10 + second;
        }
    }

    /** What changes by weaving: how each tablet stands, and the rows of the band. */
    private static final class Cloth {
        private static final int HOLE = 0;
        private static final int TWIST = 1;
        private static final int FLOATS = 2;
        private static final int THREADED = 3;
        private static final int LAST_WAY = 4;
        private static final int FIGURES = 5;
        private static final int ALL_FIGURES = FIGURES * MOST_TABLETS;

        // A row: its colours, its slants, then how the tablets stood ahead of its pick.
        private static final int COLOURS = 0;
        private static final int SLANTS = 1;
        private static final int STOOD = 2;
        private static final int ROW_FIGURES = STOOD + ALL_FIGURES;

        private final int[] stands = new int[ALL_FIGURES];
        private final int[] band = new int[MOST_ROWS * ROW_FIGURES];
        private int rows;

        private void start(Loom loom) {
            Arrays.fill(stands, 0);
            for (int t = 0; t < MOST_TABLETS; t++) {
                set(t, THREADED, loom.threading(t));
            }
            rows = 0;
        }

        private void copyFrom(Cloth other) {
            rows = other.rows;
            System.arraycopy(other.stands, 0, stands, 0, ALL_FIGURES);
            System.arraycopy(other.band, 0, band, 0, rows * ROW_FIGURES);
        }

        private int get(int t, int figure) {
            return t >= 0 && t < MOST_TABLETS && figure >= 0 && figure < FIGURES ? stands[t * FIGURES + figure] : 0;
        }

        private void set(int t, int figure, int value) {
            if (t >= 0 && t < MOST_TABLETS && figure >= 0 && figure < FIGURES) {
                stands[t * FIGURES + figure] = value;
            }
        }

        private int slant(int t) {
            int threaded = get(t, THREADED);
            return get(t, LAST_WAY) == BACK ? 1 - threaded : threaded;
        }

        private int slants(int tablets) {
            int bits = 0;
            for (int t = 0; t < tablets; t++) {
                bits |= slant(t) << t;
            }
            return bits;
        }

        private int tops() {
            int tops = 0;
            for (int t = 0; t < MOST_TABLETS; t++) {
                tops |= topOf(t, get(t, HOLE));
            }
            return tops;
        }

        private int longFloats(int tablets) {
            int found = 0;
            for (int t = 0; t < tablets; t++) {
                if (get(t, FLOATS) >= LONG_FLOAT) {
                    found++;
                }
            }
            return found;
        }

        /** What comes of it if a tablet is to be turned. */
        private int outcome(Loom loom, int t, int way) {
            int quarters = loom.quarters(t, way);
            if (quarters == 0) {
                return STAYED;
            }
            return Math.abs(get(t, TWIST) + quarters) > loom.limit ? JAMS : TURNED;
        }

        /** Whether turning a tablet brings another colour on top. */
        private boolean showsTurn(Loom loom, int t, int way) {
            if (outcome(loom, t, way) != TURNED) {
                return false;
            }
            int now = get(t, HOLE);
            int then = now + loom.quarters(t, way) & HOLES - 1;
            return loom.colour(t, then) != loom.colour(t, now);
        }

        private int turnTablet(Loom loom, int t, int way) {
            int outcome = outcome(loom, t, way);
            if (outcome == TURNED) {
                int quarters = loom.quarters(t, way);
                set(t, HOLE, get(t, HOLE) + quarters & HOLES - 1);
                set(t, TWIST, get(t, TWIST) + quarters);
                // A contrary tablet told to go forward goes back: its slant is by how it went.
                set(t, LAST_WAY, quarters > 0 ? FORWARD : BACK);
            }
            return outcome;
        }

        /** Turns a pack as a pick does, with no row of it: how many tablets jam. */
        private int turnPack(Loom loom, int p, int way) {
            int jams = 0;
            for (int t = 0; t < loom.tablets; t++) {
                int outcome = loom.isMember(p, t) ? turnTablet(loom, t, way) : STAYED;
                if (outcome == JAMS) {
                    jams++;
                }
                set(t, FLOATS, outcome == TURNED ? 0 : Math.min(get(t, FLOATS) + 1, MOST_FLOATS));
            }
            return jams;
        }

        /** Weaves a row, if there is room: how many tablets jam. */
        private int weavePick(Loom loom, int p, int way) {
            if (rows < 0 || rows >= MOST_ROWS) {
                return 0;
            }
            int start = rows * ROW_FIGURES;
            System.arraycopy(stands, 0, band, start + STOOD, ALL_FIGURES);
            int jams = turnPack(loom, p, way);
            band[start + COLOURS] = loom.coloursOf(tops());
            band[start + SLANTS] = slants(loom.tablets);
            rows++;
            return jams;
        }

        private void unweaveRow() {
            if (rows > 0 && rows <= MOST_ROWS) {
                rows--;
                System.arraycopy(band, rows * ROW_FIGURES + STOOD, stands, 0, ALL_FIGURES);
            }
        }

        private int rowColours(int k) {
            return k >= 0 && k < MOST_ROWS ? band[k * ROW_FIGURES + COLOURS] : 0;
        }

        private int rowSlants(int k) {
            return k >= 0 && k < MOST_ROWS ? band[k * ROW_FIGURES + SLANTS] : 0;
        }
    }

    /** Which holes can come on top by picks, whatever twist; its rows are used anew by each question. */
    private static final class Search {
        private static final int START = -1;
        private static final int UNMET = 0;
        private static final int MOST_STEPS_OF_LOOM = 2 * MOST_PACKS;

        private final int[] list = new int[MOST_TOPS];
        private final int[] marks = new int[MOST_TOPS];
        private final int[] steps = new int[MOST_STEPS_OF_LOOM];
        private int listed;

        /** Steps in the order in which picks are tried: the lower pack ahead, forward ahead of back. */
        private int takeSteps(Loom loom) {
            for (int p = 0; p < loom.packs && p < MOST_PACKS; p++) {
                steps[2 * p] = loom.step(p, FORWARD);
                steps[2 * p + 1] = loom.step(p, BACK);
            }
            return 2 * Math.min(loom.packs, MOST_PACKS);
        }

        /**
         * The first tops of these colours by the fewest picks, or -1. As steps are tried in their order
         * and what came first goes on first, each top is met by the first of its shortest rows of picks.
         */
        private int seek(Loom loom, int from, int colours) {
            int stepCount = takeSteps(loom);
            startList(from, START);
            for (int i = 0; i < listed && i < MOST_TOPS; i++) {
                int tops = list[i];
                if (loom.shows(tops, colours)) {
                    return tops;
                }
                for (int s = 0; s < stepCount; s++) {
                    enlist(onBy(tops, s), 1 + (tops << 4 | s));
                }
            }
            return -1;
        }

        private int onBy(int tops, int s) {
            return s >= 0 && s < MOST_STEPS_OF_LOOM ? addTops(tops, steps[s]) : tops;
        }

        private void startList(int tops, int mark) {
            Arrays.fill(marks, UNMET);
            listed = 0;
            enlist(tops, mark);
        }

        private void enlist(int tops, int mark) {
            if (tops >= 0 && tops < MOST_TOPS && marks[tops] == UNMET && listed < MOST_TOPS) {
                marks[tops] = mark;
                list[listed] = tops;
                listed++;
            }
        }

        private int markOf(int tops) {
            return tops >= 0 && tops < MOST_TOPS ? marks[tops] : START;
        }

        private int comesFrom(int tops) {
            int mark = markOf(tops);
            return mark > 0 ? mark - 1 >> 4 : tops;
        }

        private int stepsTo(int end) {
            int tops = end;
            int taken = 0;
            while (taken < MOST_TOPS && markOf(tops) > 0) {
                tops = comesFrom(tops);
                taken++;
            }
            return taken;
        }

        /** The pick that is so many ahead of the last one by which the end was met. */
        private int pickAt(int end, int aheadOfLast) {
            int tops = end;
            for (int i = 0; i < aheadOfLast && i < MOST_TOPS; i++) {
                tops = comesFrom(tops);
            }
            int step = markOf(tops) - 1 & 15;
            return 10 * (step / 2) + step % 2;
        }

        /** Lists all tops that picks of a set of packs can bring. */
        private void reach(Loom loom, int from, int set) {
            int stepCount = takeSteps(loom);
            startList(from, START);
            for (int s = 0; s < stepCount; s++) {
                if ((set >> s / 2 & 1) == 1) {
                    spread(from, onBy(0, s));
                }
            }
        }

        /** Steps add up in any order: a new one brings what is listed once, twice, thrice on. */
        private void spread(int from, int step) {
            int before = listed;
            int sum = step;
            for (int times = 1; times < HOLES && markOf(addTops(from, sum)) == UNMET; times++) {
                for (int i = 0; i < before && i < MOST_TOPS; i++) {
                    enlist(addTops(list[i], sum), START);
                }
                sum = addTops(sum, step);
            }
        }

        private boolean reaches(Loom loom, int from, int set, int colours) {
            reach(loom, from, set);
            for (int i = 0; i < listed && i < MOST_TOPS; i++) {
                if (loom.shows(list[i], colours)) {
                    return true;
                }
            }
            return false;
        }

        /** How many rows of colours unlike each other are among the tops listed. */
        private int countRows(Loom loom) {
            Arrays.fill(marks, UNMET);
            int tops = listed;
            listed = 0;
            for (int i = 0; i < tops && i < MOST_TOPS; i++) {
                // Never more rows than tops read so far: what is overwritten here has been read.
                enlist(loom.firstAlikeOf(list[i]), START);
            }
            return listed;
        }

        /** How many rows of picks weave what is seen: marks count those that end at each tops. */
        private int countWays(Loom loom, int from, int[] seen, int seenCount) {
            int stepCount = takeSteps(loom);
            Arrays.fill(marks, 0);
            if (from >= 0 && from < MOST_TOPS) {
                marks[from] = 1;
            }
            for (int i = 0; i < seenCount && i < seen.length; i++) {
                goOn(stepCount);
                keepThose(loom, seen[i]);
            }
            return sumOfMarks();
        }

        private int sumOfMarks() {
            int sum = 0;
            for (int tops = 0; tops < MOST_TOPS; tops++) {
                sum += marks[tops];
            }
            return sum;
        }

        private void goOn(int stepCount) {
            System.arraycopy(marks, 0, list, 0, MOST_TOPS);
            Arrays.fill(marks, 0);
            for (int tops = 0; tops < MOST_TOPS; tops++) {
                for (int s = 0; s < stepCount && list[tops] > 0; s++) {
                    int next = onBy(tops, s);
                    if (next >= 0 && next < MOST_TOPS) {
                        marks[next] += list[tops];
                    }
                }
            }
        }

        private void keepThose(Loom loom, int colours) {
            for (int tops = 0; tops < MOST_TOPS; tops++) {
                if (marks[tops] != 0 && !loom.shows(tops, colours)) {
                    marks[tops] = 0;
                }
            }
        }

        /** From how many tops some picks weave what is seen: told from the last row seen to the first. */
        private int countStarts(Loom loom, int[] seen, int seenCount) {
            int stepCount = takeSteps(loom);
            int allTops = Math.min(1 << 2 * loom.tablets, MOST_TOPS);
            for (int tops = 0; tops < MOST_TOPS; tops++) {
                marks[tops] = tops < allTops ? 1 : 0;
            }
            for (int i = Math.min(seenCount, seen.length) - 1; i >= 0; i--) {
                keepThose(loom, seen[i]);
                goBack(stepCount);
            }
            return sumOfMarks();
        }

        private void goBack(int stepCount) {
            System.arraycopy(marks, 0, list, 0, MOST_TOPS);
            Arrays.fill(marks, 0);
            for (int tops = 0; tops < MOST_TOPS; tops++) {
                for (int s = 0; s < stepCount && list[tops] > 0; s++) {
                    // Three steps on are one back.
                    int before = onBy(onBy(onBy(tops, s), s), s);
                    if (before >= 0 && before < MOST_TOPS) {
                        marks[before] = 1;
                    }
                }
            }
        }
    }
}

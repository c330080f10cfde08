import java.util.Arrays;

/** Rhomb tilings by cutting and growing halves of rhombs, and a table on which rhombs are laid. */
public final class RhombInflator {
    public static final int NONE = -1;

    private static final int WRONG_NUMBER = 1;
    private static final int NO_SUCH = 2;
    private static final int TOO_MANY = 3;
    private static final int THERE_IS_NONE = 5;
    private static final int IN_THE_WAY = 6;
    private static final int UNLIKE = 7;
    private static final int DEAD = 8;
    private static final int FAULTY = 9;

    private final Patch patch;
    private final Row current;
    private final Row shelf;
    private final Round round;
    private final Reader reader;
    private final Printer printer;
    private Table table;
    private Table spare;
    // The dear ones are made by the first call that asks for them.
    private Sides sides;
    private Figures figures;
    private Firsts firsts;
    private boolean sidesFresh;
    private boolean figuresFresh;
    private int status;

    public RhombInflator() {
        patch = new Patch();
        current = new Row();
        shelf = new Row();
        round = new Round();
        reader = new Reader();
        printer = new Printer();
        table = new Table();
        spare = new Table();
        patch.begin(0);
    }

    public int status() {
        return status;
    }

    // ---- the PATCH

    public int start(int start) {
        if (start < 0 || start > 3) {
            return refuse(WRONG_NUMBER);
        }
        patch.begin(start);
        forgetSides();
        return answer(patch.count);
    }

    public int level(int level) {
        if (level < 0 || level > Patch.DEEPEST) {
            return refuse(WRONG_NUMBER);
        }
        patch.bringTo(level);
        forgetSides();
        return answer(patch.count);
    }

    public int many(int what) {
        switch (what) {
            case 0: return answer(patch.root);
            case 1: return answer(patch.depth);
            case 2: return answer(patch.count);
            case 3: return answer(patch.countOf(0));
            case 4: return answer(patch.countOf(1));
            case 5: return answer(sidesNow().rhombs);
            case 6: return answer(patch.points.count);
            case 7: return answer(figuresNow().inner);
            case 8: return answer(sidesNow().legsOnce);
            case 9: return answer(sidesNow().legsMet);
            case 10: return answer(sidesNow().legsUnlike);
            case 11: return answer(patch.count - 2 * sidesNow().rhombs);
            case 12: return answer(figuresNow().kinds);
            case 13: return answer(table.count);
            case 14: return answer(table.pointCount);
            default: return refuse(WRONG_NUMBER);
        }
    }

    public int half(int i, int what) {
        if (what < 0 || what > 6) {
            return refuse(WRONG_NUMBER);
        }
        if (patch.lacks(i)) {
            return refuse(NO_SUCH);
        }
        switch (what) {
            case 0: return answer(patch.kindOf(i));
            case 1: return answer(patch.addressOf(i));
            case 2: return answer(patch.depth == 0 ? NONE : patch.motherOf(i, 1));
            case 3: return answer(patch.depth == 0 ? NONE : patch.addressOf(i) % 3);
            case 4: return answer(sidesNow().twinOf(i));
            case 5: return answer(sidesNow().neighbourOf(i, 0));
            default: return answer(sidesNow().neighbourOf(i, 1));
        }
    }

    public int corner(int i, int corner, int which) {
        if (corner < 0 || corner > 2 || which < 0 || which > 3) {
            return refuse(WRONG_NUMBER);
        }
        if (patch.lacks(i)) {
            return refuse(NO_SUCH);
        }
        return answer(Ring.part(patch.keyAt(i, corner), which));
    }

    public int leads(int address) {
        if (address < 0) {
            return refuse(WRONG_NUMBER);
        }
        return orNone(patch.numberOf(address, patch.depth));
    }

    public int locate(int p, int q, int r, int s) {
        if (!Ring.fits(p, q, r, s, 9999)) {
            return refuse(WRONG_NUMBER);
        }
        return orNone(patch.holding(Ring.key(p, q, r, s)));
    }

    public int ahead(int i, int n) {
        if (n < 0 || n > patch.depth) {
            return refuse(WRONG_NUMBER);
        }
        if (patch.lacks(i)) {
            return refuse(NO_SUCH);
        }
        return answer(patch.motherOf(i, n));
    }

    public long grown(int i, int kind, int n) {
        if (kind < 0 || kind > 1 || n < 0 || n > 40) {
            return refuse(WRONG_NUMBER);
        }
        if (patch.lacks(i)) {
            return refuse(NO_SUCH);
        }
        long thin = 1 - patch.kindOf(i);
        long thick = patch.kindOf(i);
        for (int cuts = 0; cuts < n; cuts++) {
            long both = thin + thick;
            thick = both + thick;
            thin = both;
        }
        status = 0;
        return kind == 0 ? thin : thick;
    }

    public int area(int what) {
        if (what < 0 || what > 1) {
            return refuse(WRONG_NUMBER);
        }
        return answer(patch.countOf(what));
    }

    public int nearer(int a, int b, int c, int d) {
        if (patch.lacks(a) || patch.lacks(b) || patch.lacks(c) || patch.lacks(d)) {
            return refuse(NO_SUCH);
        }
        long one = Ring.minus(patch.keyAt(a, 0), patch.keyAt(b, 0));
        long other = Ring.minus(patch.keyAt(c, 0), patch.keyAt(d, 0));
        int moreOne = Ring.squareOne(other) - Ring.squareOne(one);
        int moreGold = Ring.squareGold(other) - Ring.squareGold(one);
        return answer(Ring.sign(moreOne, moreGold) > 0 ? 1 : 0);
    }

    public int square(int i, int j, int what) {
        if (what < 0 || what > 1) {
            return refuse(WRONG_NUMBER);
        }
        if (patch.lacks(i) || patch.lacks(j)) {
            return refuse(NO_SUCH);
        }
        long apart = Ring.minus(patch.keyAt(i, 0), patch.keyAt(j, 0));
        return answer(2 * (what == 0 ? Ring.squareOne(apart) : Ring.squareGold(apart)));
    }

    public int drawn(int i, int corner, int what) {
        if (corner < 0 || corner > 2 || what < 0 || what > 1) {
            return refuse(WRONG_NUMBER);
        }
        if (patch.lacks(i)) {
            return refuse(NO_SUCH);
        }
        long key = patch.keyAt(i, corner);
        return answer(Ring.floatBits((float) (what == 0 ? Ring.across(key) : Ring.upward(key))));
    }

    public int row(int kind) {
        if (kind < 0 || kind > 1) {
            return refuse(WRONG_NUMBER);
        }
        int had = current.count;
        current.begin(kind);
        return answer(had);
    }

    public int pick(int i) {
        if (patch.lacks(i)) {
            return refuse(NO_SUCH);
        }
        if (current.count >= Row.ROOM) {
            return refuse(TOO_MANY);
        }
        if (!current.made) {
            return refuse(THERE_IS_NONE);
        }
        if (current.kind != patch.kindOf(i)) {
            return refuse(IN_THE_WAY);
        }
        current.append(patch.keyAt(i, 0));
        return answer(current.count);
    }

    public int putBy() {
        if (!current.made) {
            return refuse(THERE_IS_NONE);
        }
        shelf.copy(current);
        return answer(shelf.count);
    }

    public int picked(int what, int k, int which) {
        if (what < 0 || what > 1 || k < 0 || which < 0 || which > 3) {
            return refuse(WRONG_NUMBER);
        }
        Row asked = what == 0 ? current : shelf;
        if (k >= asked.count) {
            return refuse(THERE_IS_NONE);
        }
        return answer(Ring.part(asked.keyAt(k), which));
    }

    public int common(int i, int j) {
        if (patch.lacks(i) || patch.lacks(j)) {
            return refuse(NO_SUCH);
        }
        return orNone(patch.sharedDepth(i, j));
    }

    public int steps(int i, int j) {
        if (patch.lacks(i) || patch.lacks(j)) {
            return refuse(NO_SUCH);
        }
        Sides now = sidesNow();
        now.spread(i, Patch.ROOM);
        return answer(now.distanceOf(j));
    }

    public int around(int i, int n) {
        if (n < 0 || n > 40) {
            return refuse(WRONG_NUMBER);
        }
        if (patch.lacks(i)) {
            return refuse(NO_SUCH);
        }
        return answer(sidesNow().spread(i, n));
    }

    public int ribbon(int i, int leg, int what) {
        if (leg < 0 || leg > 1 || what < 0 || what > 1) {
            return refuse(WRONG_NUMBER);
        }
        if (patch.lacks(i)) {
            return refuse(NO_SUCH);
        }
        Sides now = sidesNow();
        if (now.twinOf(i) < 0) {
            return refuse(THERE_IS_NONE);
        }
        now.follow(i, leg);
        return answer(what == 0 ? now.ribbonLength : now.ribbonLeast);
    }

    public int like(int k, boolean flip) {
        if (k < 0 || k > 9) {
            return refuse(WRONG_NUMBER);
        }
        return answer(sidesNow().mapsOntoItself(k, flip) ? 1 : 0);
    }

    public int legs(int d) {
        if (d < 0 || d > 4) {
            return refuse(WRONG_NUMBER);
        }
        return answer(sidesNow().legsLeading(d));
    }

    public int border(int what) {
        if (what < 0 || what > 1) {
            return refuse(WRONG_NUMBER);
        }
        return answer(what == 0 ? sidesNow().legsAlone : sidesNow().basesAlone);
    }

    // ---- FIGURES

    public int tenths(int i, int corner) {
        if (corner < 0 || corner > 2) {
            return refuse(WRONG_NUMBER);
        }
        if (patch.lacks(i)) {
            return refuse(NO_SUCH);
        }
        return answer(figuresNow().widthAt(patch.pointAt(i, corner)));
    }

    public int figure(int i, int corner) {
        if (corner < 0 || corner > 2) {
            return refuse(WRONG_NUMBER);
        }
        if (patch.lacks(i)) {
            return refuse(NO_SUCH);
        }
        return orNone(figuresNow().numberAt(patch.pointAt(i, corner)));
    }

    public int atlas(int k) {
        if (k < 0) {
            return refuse(WRONG_NUMBER);
        }
        return orNone(figuresNow().listed(k));
    }

    public int having(int figure) {
        if (figure < 0) {
            return refuse(WRONG_NUMBER);
        }
        return answer(figuresNow().pointsWith(figure));
    }

    public int comes(int start, int figure) {
        if (start < 0 || start > 3 || figure < 0) {
            return refuse(WRONG_NUMBER);
        }
        if (firsts == null) {
            firsts = new Firsts();
        }
        return orNone(firsts.depthOf(start, figure));
    }

    // ---- the TABLE

    public int lay(int kind, int p, int q, int r, int s, int d, int hand) {
        if (kind < 0 || kind > 1 || d < 0 || d > 9 || hand < 0 || hand > 1 || !Ring.fits(p, q, r, s, Table.FARTHEST)) {
            return refuse(WRONG_NUMBER);
        }
        return layAt(kind, Ring.key(p, q, r, s), d, hand);
    }

    public int borrow(int i) {
        if (patch.lacks(i)) {
            return refuse(NO_SUCH);
        }
        // A full table is looked at here, too: 3 stands ahead of 5, whatever the promise lists first.
        if (table.count >= Table.ROOM) {
            return refuse(TOO_MANY);
        }
        int twin = sidesNow().twinOf(i);
        if (twin < 0) {
            return refuse(THERE_IS_NONE);
        }
        int lesser = Math.min(i, twin);
        int hand = patch.handOf(lesser) > 0 ? 0 : 1;
        return layAt(patch.kindOf(lesser), patch.keyAt(lesser, 0), patch.legDirection(lesser, 0), hand);
    }

    public int take(int k) {
        if (table.lacks(k)) {
            return refuse(NO_SUCH);
        }
        table.remove(k);
        return answer(table.count);
    }

    public int clear() {
        int had = table.count;
        table.empty();
        return answer(had);
    }

    public int rhomb(int k, int what) {
        if (what < 0 || what > 2) {
            return refuse(WRONG_NUMBER);
        }
        if (table.lacks(k)) {
            return refuse(NO_SUCH);
        }
        return answer(what == 0 ? table.kindOf(k) : what == 1 ? table.directionOf(k) : table.handOf(k));
    }

    public int spot(int k, int corner, int which) {
        if (corner < 0 || corner > 3 || which < 0 || which > 3) {
            return refuse(WRONG_NUMBER);
        }
        if (table.lacks(k)) {
            return refuse(NO_SUCH);
        }
        return answer(Ring.part(table.cornerKey(k, corner), which));
    }

    public int pointOf(int k, int corner) {
        if (corner < 0 || corner > 3) {
            return refuse(WRONG_NUMBER);
        }
        if (table.lacks(k)) {
            return refuse(NO_SUCH);
        }
        return answer(table.pointWith(table.cornerKey(k, corner)));
    }

    public int taken(int point) {
        if (table.lacksPoint(point)) {
            return refuse(NO_SUCH);
        }
        round.look(table, point);
        return answer(round.filled);
    }

    public int gaps(int point, int what) {
        if (what < 0 || what > 1) {
            return refuse(WRONG_NUMBER);
        }
        if (table.lacksPoint(point)) {
            return refuse(NO_SUCH);
        }
        round.look(table, point);
        return answer(what == 0 ? round.stretches : round.widest);
    }

    public int ways(int point) {
        if (table.lacksPoint(point)) {
            return refuse(NO_SUCH);
        }
        round.look(table, point);
        return answer(round.fillings);
    }

    public int holes(int what) {
        if (what < 0 || what > 4) {
            return refuse(WRONG_NUMBER);
        }
        if (what > 2) {
            return orNone(round.firstOf(table, what - 2));
        }
        return answer(round.countOf(table, what));
    }

    public int force(int n) {
        if (n < 1 || n > Table.ROOM) {
            return refuse(WRONG_NUMBER);
        }
        for (int laid = 0; laid < n; laid++) {
            if (round.firstOf(table, Round.DEAD_POINT) >= 0) {
                return refuse(DEAD);
            }
            int point = round.firstOf(table, Round.FORCED_POINT);
            if (point < 0) {
                return answer(laid);
            }
            if (table.count >= Table.ROOM) {
                return refuse(TOO_MANY);
            }
            if (!round.fillFirst(table, point)) {
                return refuse(DEAD);
            }
        }
        return answer(n);
    }

    public int meeting(int k) {
        if (table.lacks(k)) {
            return refuse(NO_SUCH);
        }
        return answer(table.edgesShared(k));
    }

    public int open() {
        int alone = 0;
        for (int k = 0; k < table.count; k++) {
            alone += 4 - table.edgesShared(k);
        }
        return answer(alone);
    }

    public int feed(int a, int b, int c, int d, int e) {
        if (!reader.hasRoomFor(20)) {
            return NONE;
        }
        reader.append(a);
        reader.append(b);
        reader.append(c);
        reader.append(d);
        reader.append(e);
        return reader.fed;
    }

    public int load(int n) {
        if (n < 0 || n > reader.fed) {
            return refuse(WRONG_NUMBER);
        }
        if (!reader.read(n, spare)) {
            return refuse(FAULTY);
        }
        Table former = table;
        table = spare;
        spare = former;
        return answer(table.count);
    }

    public int fault(int what) {
        return what == 0 ? reader.faultKind : what == 1 ? reader.faultPlace : NONE;
    }

    public int print() {
        printer.write(table);
        return answer(printer.count);
    }

    public int out(int i) {
        if (i < 0) {
            return refuse(WRONG_NUMBER);
        }
        return orNone(printer.byteAt(i));
    }

    public int covered(int what) {
        if (what < 0 || what > 1) {
            return refuse(WRONG_NUMBER);
        }
        return answer(2 * table.countOf(what));
    }

    // ---- what the calls share

    private int refuse(int why) {
        status = why;
        return NONE;
    }

    private int answer(int value) {
        status = 0;
        return value;
    }

    private int orNone(int found) {
        return found < 0 ? refuse(THERE_IS_NONE) : answer(found);
    }

    private void forgetSides() {
        sidesFresh = false;
        figuresFresh = false;
    }

    private Sides sidesNow() {
        if (sides == null) {
            sides = new Sides(patch);
        }
        if (!sidesFresh) {
            sides.fill();
            sidesFresh = true;
        }
        return sides;
    }

    private Figures figuresNow() {
        Sides now = sidesNow();
        if (figures == null) {
            figures = new Figures(patch, now);
        }
        if (!figuresFresh) {
            figures.fill();
            figuresFresh = true;
        }
        return figures;
    }

    private int layAt(int kind, long key, int d, int hand) {
        int why = table.tryToLay(kind, key, d, hand);
        return why == 0 ? answer(table.count - 1) : refuse(why);
    }

    /**
     * The ring of whole numbers with z, a tenth of a turn. A point is one long, four numbers of
     * 16 bits each (p the highest), so that points are kept, compared and handed on as one value.
     */
    private static final class Ring {
        private static final long TOPS = 0x8000800080008000L;
        private static final long[] STEPS = {
            0x0001000000000000L, 0x0000000100000000L, 0x0000000000010000L, 0x0000000000000001L, 0xFFFF0001FFFF0001L,
            0xFFFF000000000000L, 0x0000FFFF00000000L, 0x00000000FFFF0000L, 0x000000000000FFFFL, 0x0001FFFF0001FFFFL};
        // Sines of k tenths by the sine of one, and cosines times two: whole numbers and so many
        // times GOLD; the first three stand again at the end, for k up to 9 and 3 more.
        private static final int[] SINE_ONE = {0, 1, 0, 0, 1, 0, -1, 0, 0, -1, 0, 1, 0};
        private static final int[] SINE_GOLD = {0, 0, 1, 1, 0, 0, 0, -1, -1, 0, 0, 0, 1};
        private static final int[] COSINE_ONE = {2, 0, -1, 1, 0, -2, 0, 1, -1, 0, 2, 0, -1};
        private static final int[] COSINE_GOLD = {0, 1, 1, -1, -1, 0, -1, -1, 1, 1, 0, 1, 1};

        static long key(int p, int q, int r, int s) {
            return (p & 0xFFFFL) << 48 | (q & 0xFFFFL) << 32 | (r & 0xFFFFL) << 16 | (s & 0xFFFFL);
        }

        static boolean fits(int p, int q, int r, int s, int most) {
            return p >= -most && p <= most && q >= -most && q <= most
                && r >= -most && r <= most && s >= -most && s <= most;
        }

        static int part(long key, int which) {
            return (short) (key >> (48 - 16 * which));
        }

        static long step(int d) {
            return STEPS[Math.floorMod(d, 10)];
        }

        // The highest bit of each number is added apart, so that nothing is carried into the next one.
        static long plus(long x, long y) {
            return ((x & ~TOPS) + (y & ~TOPS)) ^ ((x ^ y) & TOPS);
        }

        static long minus(long x, long y) {
            return ((x | TOPS) - (y & ~TOPS)) ^ ((x ^ ~y) & TOPS);
        }

        static long turned(long x) {
            int s = part(x, 3);
            return key(-s, part(x, 0) + s, part(x, 1) - s, part(x, 2) + s);
        }

        static long mirrored(long x) {
            int q = part(x, 1);
            return key(part(x, 0) + q, -q, q - part(x, 3), -q - part(x, 2));
        }

        static long timesGold(long x) {
            int p = part(x, 0);
            int q = part(x, 1);
            int r = part(x, 2);
            int s = part(x, 3);
            return key(p + q - s, r + s, p + q, r + s - p);
        }

        private static int weighed(long x, int d, int[] weights) {
            int first = (10 - d % 10) % 10;
            int sum = 0;
            for (int k = 0; k < 4 && first + k < weights.length; k++) {
                sum += (short) (x >> (48 - 16 * k)) * weights[first + k];
            }
            return sum;
        }

        /** How far x lies left of STEP d, by the height of STEP 1: the whole number of it. */
        static int leftOne(int d, long x) {
            return weighed(x, d, SINE_ONE);
        }

        static int leftGold(int d, long x) {
            return weighed(x, d, SINE_GOLD);
        }

        static int sideOf(int d, long x) {
            return sign(weighed(x, d, SINE_ONE), weighed(x, d, SINE_GOLD));
        }

        /** Whether x lies on the way from 0 to STEP d, at neither end. */
        static boolean withinStep(int d, long x) {
            if (weighed(x, d, SINE_ONE) != 0 || weighed(x, d, SINE_GOLD) != 0) {
                return false;
            }
            int one = weighed(x, d, COSINE_ONE);
            int gold = weighed(x, d, COSINE_GOLD);
            return sign(one, gold) > 0 && sign(one - 2, gold) < 0;
        }

        /** The sign of one and gold times GOLD together, by squares, as the root of 5 is not whole. */
        static int sign(int one, int gold) {
            long whole = 2L * one + gold;
            long root = gold;
            if (whole == 0 && root == 0) {
                return 0;
            }
            if (whole >= 0 && root >= 0) {
                return 1;
            }
            if (whole <= 0 && root <= 0) {
                return -1;
            }
            boolean wholeWins = whole * whole > 5 * root * root;
            return wholeWins == whole > 0 ? 1 : -1;
        }

        static int squareOne(long x) {
            int p = part(x, 0);
            int q = part(x, 1);
            int r = part(x, 2);
            int s = part(x, 3);
            return p * p + q * q + r * r + s * s - p * r - q * s + p * s;
        }

        static int squareGold(long x) {
            int p = part(x, 0);
            int q = part(x, 1);
            int r = part(x, 2);
            int s = part(x, 3);
            return p * q + q * r + r * s + p * r + q * s - p * s;
        }

        static double across(long x) {
            double sum = part(x, 0);
            sum = sum + part(x, 1) * 0.809016994375;
            sum = sum + part(x, 2) * 0.309016994375;
            return sum - part(x, 3) * 0.309016994375;
        }

        static double upward(long x) {
            double sum = part(x, 1) * 0.587785252292;
            sum = sum + part(x, 2) * 0.951056516295;
            return sum + part(x, 3) * 0.951056516295;
        }

        /** The bits of a float, found by halving and doubling, as the library's own way is shut. */
        static int floatBits(float value) {
            if (value == 0) {
                return 0;
            }
            double size = value < 0 ? -value : value;
            int exponent = 127;
            for (int n = 0; n < 254 && size >= 2; n++) {
                size = size / 2;
                exponent++;
            }
            for (int n = 0; n < 254 && size < 1; n++) {
                size = size * 2;
                exponent--;
            }
            int bits = exponent << 23 | (int) ((size - 1) * 8388608);
            return value < 0 ? bits | 1 << 31 : bits;
        }
    }

    /** The points of a patch, each once, numbered as they come; found again by a hashed row. */
    private static final class Points {
        // A wheel at LEVEL 5, the richest patch, has fewer than 512 points.
        static final int ROOM = 512;
        private static final int SMALL_ROOM = 64;

        private long[] keys;
        // The number of a point and 1, or 0; twice as many slots as there is room, a power of two.
        private int[] slots;
        private int count;

        Points() {
            keys = new long[SMALL_ROOM];
            slots = new int[2 * SMALL_ROOM];
        }

        void empty() {
            count = 0;
            Arrays.fill(slots, 0);
        }

        long keyAt(int point) {
            return point >= 0 && point < count ? keys[point] : 0;
        }

        int find(long key) {
            return slots[slotFor(key)] - 1;
        }

        int add(long key) {
            int slot = slotFor(key);
            if (slots[slot] == 0 && count < keys.length) {
                keys[count] = key;
                count++;
                slots[slot] = count;
            }
            return Math.max(slots[slot] - 1, 0);
        }

        /** All points times GOLD, with room for as many more as the patch's halves may need. */
        void growAll(int halves) {
            if (halves + 2 > keys.length && keys.length < ROOM) {
                keys = Arrays.copyOf(keys, ROOM);
                slots = new int[2 * ROOM];
            } else {
                Arrays.fill(slots, 0);
            }
            for (int point = 0; point < count; point++) {
                keys[point] = Ring.timesGold(keys[point]);
                slots[slotFor(keys[point])] = point + 1;
            }
        }

        /** The slot that holds a point, or the free one in which it would stand. */
        private int slotFor(long key) {
            int slot = (int) (key * 0x9E3779B97F4A7C15L >>> 48) & slots.length - 1;
            for (int n = 0; n < slots.length; n++) {
                int held = slots[slot];
                if (held == 0 || keys[held - 1] == key) {
                    return slot;
                }
                slot = slot + 1 & slots.length - 1;
            }
            return slot;
        }
    }

    /** A START, cut some times: its halves with their corners, legs and addresses. */
    private static final class Patch {
        static final int ROOM = 890;
        static final int DEEPEST = 5;
        // Enough for most patches that are looked at; a deeper cut makes room once for all.
        private static final int SMALL_ROOM = 50;
        // How many halves a thin one, then a thick one, is behind 0 to 5 cuts.
        private static final int[] SIZES = {1, 2, 5, 13, 34, 89, 1, 3, 8, 21, 55, 144};

        private int[] kinds;
        private int[] addresses;
        private int[] corners;
        private int[] directions;
        private final Points points;
        private int root;
        private int depth;
        private int count;

        Patch() {
            kinds = new int[SMALL_ROOM];
            addresses = new int[SMALL_ROOM];
            corners = new int[3 * SMALL_ROOM];
            directions = new int[2 * SMALL_ROOM];
            points = new Points();
        }

        private void makeRoom() {
            kinds = Arrays.copyOf(kinds, ROOM);
            addresses = Arrays.copyOf(addresses, ROOM);
            corners = Arrays.copyOf(corners, 3 * ROOM);
            directions = Arrays.copyOf(directions, 2 * ROOM);
        }

        boolean lacks(int i) {
            return i < 0 || i >= count;
        }

        int kindOf(int i) {
            return i < 0 || i >= count ? 0 : kinds[i];
        }

        int addressOf(int i) {
            return i < 0 || i >= count ? 0 : addresses[i];
        }

        int pointAt(int i, int corner) {
            return i < 0 || i >= count || corner < 0 || corner > 2 ? 0 : corners[3 * i + corner];
        }

        long keyAt(int i, int corner) {
            return points.keyAt(pointAt(i, corner));
        }

        int legDirection(int i, int leg) {
            return i < 0 || i >= count || leg < 0 || leg > 1 ? 0 : directions[2 * i + leg];
        }

        /** 1 if C lies against the clock from B, seen from A; else -1. */
        int handOf(int i) {
            return Math.floorMod(legDirection(i, 1) - legDirection(i, 0), 10) < 5 ? 1 : -1;
        }

        int countOf(int kind) {
            int found = 0;
            for (int i = 0; i < count; i++) {
                if (kinds[i] == kind) {
                    found++;
                }
            }
            return found;
        }

        void begin(int start) {
            root = start;
            depth = 0;
            count = 0;
            points.empty();
            if (start == 0) {
                for (int i = 0; i < 10; i++) {
                    appendHalf(0, 0, i + 1 - i % 2, i + i % 2);
                }
            } else if (start == 1) {
                appendHalf(0, 0, 0, 1);
            } else {
                appendHalf(1, 0, 0, 3);
            }
            if (start == 3) {
                appendHalf(1, Ring.plus(Ring.step(0), Ring.step(3)), 8, 5);
            }
        }

        private void appendHalf(int kind, long a, int toB, int toC) {
            int b = points.add(Ring.plus(a, Ring.step(toB)));
            int c = points.add(Ring.plus(a, Ring.step(toC)));
            shape(count, kind, count, toB, toC);
            span(count, points.add(a), b, c);
            count++;
        }

        private void shape(int i, int kind, int address, int toB, int toC) {
            kinds[i] = kind;
            addresses[i] = address;
            directions[2 * i] = Math.floorMod(toB, 10);
            directions[2 * i + 1] = Math.floorMod(toC, 10);
        }

        private void span(int i, int a, int b, int c) {
            corners[3 * i] = a;
            corners[3 * i + 1] = b;
            corners[3 * i + 2] = c;
        }

        void bringTo(int level) {
            if (level < depth) {
                begin(root);
            }
            for (int cuts = 0; cuts < DEEPEST && depth < level; cuts++) {
                cutAll();
            }
        }

        /** From the last half on, so that the parts never stand where a half is that is still whole. */
        private void cutAll() {
            int parts = 2 * count + countOf(1);
            if (parts > ROOM) {
                return;
            }
            if (parts > kinds.length) {
                makeRoom();
            }
            points.growAll(parts);
            int at = parts;
            for (int i = count - 1; i >= 0; i--) {
                at -= 2 + kinds[i];
                if (kinds[i] == 0) {
                    cutThin(i, at);
                } else {
                    cutThick(i, at);
                }
            }
            count = parts;
            depth++;
        }

        // A leg as it was ahead of the cut is a STEP in its direction; the parts' legs are turns of it.
        private void cutThin(int i, int at) {
            int a = corners[3 * i];
            int b = corners[3 * i + 1];
            int c = corners[3 * i + 2];
            int d = directions[2 * i];
            int o = handOf(i);
            int address = 3 * addresses[i];
            int p = points.add(Ring.plus(points.keyAt(a), Ring.step(d)));
            shape(at, 0, address, d + 7 * o, d + 8 * o);
            span(at, c, p, b);
            shape(at + 1, 1, address + 1, d + 2 * o, d + 5 * o);
            span(at + 1, p, c, a);
        }

        private void cutThick(int i, int at) {
            int a = corners[3 * i];
            int b = corners[3 * i + 1];
            int c = corners[3 * i + 2];
            int d = directions[2 * i];
            int o = handOf(i);
            int address = 3 * addresses[i];
            long back = Ring.minus(points.keyAt(b), Ring.step(d));
            int q = points.add(back);
            int r = points.add(Ring.plus(back, Ring.step(d + 3 * o)));
            shape(at, 1, address, d + 4 * o, d + 7 * o);
            span(at, r, c, a);
            shape(at + 1, 1, address + 1, d + 3 * o, d);
            span(at + 1, q, r, b);
            shape(at + 2, 0, address + 2, d + 8 * o, d + 7 * o);
            span(at + 2, r, q, a);
        }

        /** The number of the half with an address at a level of this START; below 0 if there is none. */
        int numberOf(int address, int level) {
            int first = shortened(address, level);
            int kind = root < 2 ? 0 : 1;
            if (first >= (root == 0 ? 10 : root == 3 ? 2 : 1)) {
                return NONE;
            }
            int before = first * sizeOf(kind, level);
            for (int left = level - 1; left >= 0; left--) {
                int digit = shortened(address, left) % 3;
                if (digit > kind + 1) {
                    return NONE;
                }
                for (int part = 0; part < digit; part++) {
                    before += sizeOf(partKind(kind, part), left);
                }
                kind = partKind(kind, digit);
            }
            return before;
        }

        /** An address without so many of its last digits. */
        private static int shortened(int address, int digits) {
            int rest = address;
            for (int n = 0; n < digits && n < DEEPEST; n++) {
                rest /= 3;
            }
            return rest;
        }

        private static int partKind(int kind, int digit) {
            return kind == 0 ? digit : digit == 2 ? 0 : 1;
        }

        private static int sizeOf(int kind, int cuts) {
            return cuts < 0 || cuts > DEEPEST ? 0 : kind == 0 ? SIZES[cuts] : SIZES[cuts + 6];
        }

        /** The half, n levels up, in which a half is. */
        int motherOf(int i, int n) {
            return numberOf(shortened(addressOf(i), n), depth - n);
        }

        int sharedDepth(int i, int j) {
            int one = addressOf(i);
            int other = addressOf(j);
            for (int level = depth; level >= 0; level--) {
                if (one == other) {
                    return level;
                }
                one /= 3;
                other /= 3;
            }
            return NONE;
        }

        int holding(long key) {
            for (int i = 0; i < count; i++) {
                if (holds(i, key)) {
                    return i;
                }
            }
            return NONE;
        }

        private boolean holds(int i, long key) {
            int toB = directions[2 * i];
            int toC = directions[2 * i + 1];
            int o = handOf(i);
            long fromA = Ring.minus(key, keyAt(i, 0));
            if (o * Ring.sideOf(toB, fromA) < 0 || o * Ring.sideOf(toC, fromA) > 0) {
                return false;
            }
            long fromB = Ring.minus(key, keyAt(i, 1));
            int one = Ring.leftOne(toC, fromB) - Ring.leftOne(toB, fromB);
            int gold = Ring.leftGold(toC, fromB) - Ring.leftGold(toB, fromB);
            return o * Ring.sign(one, gold) >= 0;
        }
    }

    /**
     * Which halves of a patch lie side by side. A side is three times its half's number and 0 (leg
     * to B), 1 (leg to C) or 2 (base).
     */
    private static final class Sides {
        private final int[] beyond;
        private final int[] chainHeads;
        private final int[] chainNext;
        private final int[] distances;
        private final int[] queue;
        private final int[] images;
        private final Patch patch;
        private int rhombs;
        private int legsOnce;
        private int legsMet;
        private int legsUnlike;
        private int legsAlone;
        private int basesAlone;
        private int ribbonLength;
        private int ribbonLeast;

        Sides(Patch patch) {
            this.patch = patch;
            beyond = new int[3 * Patch.ROOM];
            chainHeads = new int[Points.ROOM];
            chainNext = new int[3 * Patch.ROOM];
            distances = new int[Patch.ROOM];
            queue = new int[Patch.ROOM];
            images = new int[Points.ROOM];
        }

        void fill() {
            Arrays.fill(chainHeads, NONE);
            for (int side = 0; side < 3 * patch.count; side++) {
                joinSide(side);
            }
            countSides();
        }

        // All sides with one lesser end stand in one chain, so that a side's like is found among few.
        private void joinSide(int side) {
            int lesser = lesserEnd(side);
            beyond[side] = NONE;
            int seen = chainHeads[lesser];
            for (int n = 0; n < chainNext.length && seen >= 0; n++) {
                if (greaterEnd(seen) == greaterEnd(side)) {
                    beyond[side] = seen;
                    beyond[seen] = side;
                }
                seen = chainNext[seen];
            }
            chainNext[side] = chainHeads[lesser];
            chainHeads[lesser] = side;
        }

        private int endOf(int side, boolean second) {
            int which = side % 3;
            int corner = second ? (which == 0 ? 1 : 2) : (which == 2 ? 1 : 0);
            return patch.pointAt(side / 3, corner);
        }

        private int lesserEnd(int side) {
            return Math.min(endOf(side, false), endOf(side, true));
        }

        private int greaterEnd(int side) {
            return Math.max(endOf(side, false), endOf(side, true));
        }

        private void countSides() {
            rhombs = 0;
            legsOnce = 0;
            legsMet = 0;
            legsUnlike = 0;
            legsAlone = 0;
            basesAlone = 0;
            for (int side = 0; side < 3 * patch.count; side++) {
                if (side % 3 == 2) {
                    basesAlone += beyond[side] < 0 ? 1 : 0;
                    rhombs += standsFirst(side) && twinOf(side / 3) >= 0 ? 1 : 0;
                } else if (standsFirst(side)) {
                    legsOnce++;
                    countLeg(side, beyond[side]);
                }
            }
        }

        /** Whether a side is the first, or the only one, of those at its place. */
        private boolean standsFirst(int side) {
            return beyond[side] < 0 || beyond[side] > side;
        }

        private void countLeg(int side, int other) {
            if (other < 0) {
                legsAlone++;
            } else if (side % 3 == other % 3 && arrowHead(side) == arrowHead(other)) {
                legsMet++;
            } else {
                legsUnlike++;
            }
        }

        private int arrowHead(int leg) {
            int i = leg / 3;
            return patch.pointAt(i, leg % 3 == 1 ? 2 : patch.kindOf(i) == 0 ? 1 : 0);
        }

        int neighbourOf(int i, int which) {
            int other = patch.lacks(i) || which < 0 || which > 2 ? NONE : beyond[3 * i + which];
            return other < 0 ? NONE : other / 3;
        }

        int twinOf(int i) {
            int other = neighbourOf(i, 2);
            boolean alike = other >= 0 && patch.kindOf(other) == patch.kindOf(i)
                && patch.pointAt(other, 1) == patch.pointAt(i, 1) && patch.pointAt(other, 2) == patch.pointAt(i, 2);
            return alike ? other : NONE;
        }

        int distanceOf(int i) {
            return patch.lacks(i) ? NONE : distances[i];
        }

        /** Goes out from a half by at most so many steps: how many halves it comes to. */
        int spread(int from, int most) {
            if (patch.lacks(from)) {
                return 0;
            }
            Arrays.fill(distances, NONE);
            distances[from] = 0;
            queue[0] = from;
            int reached = 1;
            for (int done = 0; done < reached && done < queue.length; done++) {
                int i = queue[done];
                for (int which = 0; which < 3 && distances[i] < most; which++) {
                    int next = neighbourOf(i, which);
                    if (next >= 0 && distances[next] < 0 && reached < queue.length) {
                        distances[next] = distances[i] + 1;
                        queue[reached] = next;
                        reached++;
                    }
                }
            }
            return reached;
        }

        void follow(int i, int leg) {
            int twin = twinOf(i);
            if (twin < 0) {
                return;
            }
            ribbonLength = 1;
            ribbonLeast = Math.min(i, twin);
            followOneWay(i, leg);
            // The edge over against a half's leg is its twin's other leg.
            followOneWay(twin, 1 - leg);
        }

        private void followOneWay(int from, int leg) {
            int i = from;
            int which = leg;
            for (int n = 0; n < patch.count; n++) {
                int other = beyond[3 * i + which];
                int next = other < 0 ? NONE : other / 3;
                int twin = next < 0 ? NONE : twinOf(next);
                if (twin < 0 || other % 3 == 2) {
                    return;
                }
                ribbonLength++;
                ribbonLeast = Math.min(ribbonLeast, Math.min(next, twin));
                i = twin;
                which = 1 - other % 3;
            }
        }

        boolean mapsOntoItself(int tenths, boolean flip) {
            for (int point = 0; point < patch.points.count; point++) {
                long key = patch.points.keyAt(point);
                long image = flip ? Ring.mirrored(key) : key;
                for (int n = 0; n < tenths; n++) {
                    image = Ring.turned(image);
                }
                images[point] = patch.points.find(image);
                if (images[point] < 0) {
                    return false;
                }
            }
            for (int i = 0; i < patch.count; i++) {
                if (!hasImageOf(i)) {
                    return false;
                }
            }
            return true;
        }

        private boolean hasImageOf(int i) {
            int a = images[patch.pointAt(i, 0)];
            int b = images[patch.pointAt(i, 1)];
            int c = images[patch.pointAt(i, 2)];
            int side = chainHeads[Math.min(a, b)];
            for (int n = 0; n < chainNext.length && side >= 0; n++) {
                int j = side / 3;
                if (patch.pointAt(j, 0) == a && patch.pointAt(j, 1) == b && patch.pointAt(j, 2) == c
                    && patch.kindOf(j) == patch.kindOf(i)) {
                    return true;
                }
                side = chainNext[side];
            }
            return false;
        }

        int legsLeading(int d) {
            int found = 0;
            for (int i = 0; i < patch.count; i++) {
                for (int leg = 0; leg < 2; leg++) {
                    if (standsFirst(3 * i + leg) && patch.legDirection(i, leg) % 5 == d) {
                        found++;
                    }
                }
            }
            return found;
        }
    }

    /** What lies round each point of a patch, and the atlas of it. */
    private static final class Figures {
        // Far more than there are ways in which rhombs that meet can lie round a point of a patch.
        static final int ATLAS_ROOM = 64;

        private final int[] widths;
        // Four bits for each direction: 0, or 1 more than the sort of the sector that begins there.
        private final long[] sectors;
        private final boolean[] ragged;
        private final int[] numbers;
        private final int[] listedFigures;
        private final Patch patch;
        private final Sides sides;
        private int points;
        private int inner;
        private int kinds;

        Figures(Patch patch, Sides sides) {
            this.patch = patch;
            this.sides = sides;
            widths = new int[Points.ROOM];
            sectors = new long[Points.ROOM];
            ragged = new boolean[Points.ROOM];
            numbers = new int[Points.ROOM];
            listedFigures = new int[ATLAS_ROOM];
        }

        void fill() {
            points = patch.points.count;
            inner = 0;
            kinds = 0;
            for (int point = 0; point < points; point++) {
                widths[point] = 0;
                sectors[point] = 0;
                ragged[point] = false;
            }
            for (int i = 0; i < patch.count; i++) {
                addHalf(i, sides.twinOf(i));
            }
            for (int point = 0; point < points; point++) {
                boolean full = widths[point] == 10;
                inner += full ? 1 : 0;
                numbers[point] = full && !ragged[point] ? leastNumber(sectors[point]) : NONE;
                enlist(numbers[point]);
            }
        }

        private void addHalf(int i, int twin) {
            int thick = patch.kindOf(i);
            for (int corner = 0; corner < 3; corner++) {
                int point = patch.pointAt(i, corner);
                widths[point] += corner == 0 ? 1 + 2 * thick : 2 - thick;
                ragged[point] = ragged[point] || twin < 0;
            }
            int toB = patch.legDirection(i, 0);
            int toC = patch.legDirection(i, 1);
            boolean left = patch.handOf(i) > 0;
            int sort = 1 + 3 * thick;
            setSector(patch.pointAt(i, 0), left ? toB : toC, sort);
            if (i < twin) {
                setSector(patch.pointAt(i, 1), left ? toC : toB + 5, sort + 1);
                setSector(patch.pointAt(i, 2), left ? toC + 5 : toB, sort + 2);
            }
        }

        private void setSector(int point, int direction, int digit) {
            sectors[point] |= (long) digit << 4 * Math.floorMod(direction, 10);
        }

        private static int leastNumber(long round) {
            int least = NONE;
            for (int first = 0; first < 10; first++) {
                int number = 0;
                for (int n = first; n < first + 10; n++) {
                    int digit = (int) (round >> 4 * (n % 10)) & 15;
                    number = digit == 0 ? number : 7 * number + digit;
                }
                least = least < 0 || number < least ? number : least;
            }
            return least;
        }

        private void enlist(int number) {
            if (number < 0 || kinds >= ATLAS_ROOM) {
                return;
            }
            int place = 0;
            while (place < kinds && listedFigures[place] < number) {
                place++;
            }
            if (place < kinds && listedFigures[place] == number) {
                return;
            }
            for (int k = kinds; k > place; k--) {
                listedFigures[k] = listedFigures[k - 1];
            }
            listedFigures[place] = number;
            kinds++;
        }

        int widthAt(int point) {
            return point < 0 || point >= points ? 0 : widths[point];
        }

        int numberAt(int point) {
            return point < 0 || point >= points ? NONE : numbers[point];
        }

        int listed(int k) {
            return k < 0 || k >= kinds ? NONE : listedFigures[k];
        }

        int pointsWith(int number) {
            int found = 0;
            for (int point = 0; point < points; point++) {
                if (numbers[point] == number) {
                    found++;
                }
            }
            return found;
        }
    }

    /** By which level each figure first comes from each START; found once for a START, then kept. */
    private static final class Firsts {
        private final int[] known;
        private final int[] depths;
        private final int[] counts;
        private Figures trial;

        Firsts() {
            known = new int[4 * Figures.ATLAS_ROOM];
            depths = new int[4 * Figures.ATLAS_ROOM];
            counts = new int[4];
            Arrays.fill(counts, NONE);
        }

        int depthOf(int start, int figure) {
            if (start < 0 || start > 3) {
                return NONE;
            }
            if (counts[start] < 0) {
                grow(start);
            }
            int at = placeOf(start, figure);
            return at < 0 ? NONE : depths[at];
        }

        private int placeOf(int start, int figure) {
            int base = start * Figures.ATLAS_ROOM;
            for (int k = 0; k < counts[start]; k++) {
                if (known[base + k] == figure) {
                    return base + k;
                }
            }
            return NONE;
        }

        private void grow(int start) {
            if (trial == null) {
                Patch patch = new Patch();
                trial = new Figures(patch, new Sides(patch));
            }
            counts[start] = 0;
            trial.patch.begin(start);
            for (int depth = 0; depth <= Patch.DEEPEST; depth++) {
                trial.patch.bringTo(depth);
                trial.sides.fill();
                trial.fill();
                for (int k = 0; k < trial.kinds; k++) {
                    note(start, trial.listed(k), depth);
                }
            }
        }

        private void note(int start, int figure, int depth) {
            if (counts[start] < Figures.ATLAS_ROOM && placeOf(start, figure) < 0) {
                int at = start * Figures.ATLAS_ROOM + counts[start];
                known[at] = figure;
                depths[at] = depth;
                counts[start]++;
            }
        }
    }

    /** Corners A of halves of one kind, as they were when the halves were picked. */
    private static final class Row {
        static final int ROOM = 12;

        private final long[] keys;
        private boolean made;
        private int kind;
        private int count;

        Row() {
            keys = new long[ROOM];
        }

        void begin(int newKind) {
            made = true;
            kind = newKind;
            count = 0;
        }

        void append(long key) {
            if (count < ROOM) {
                keys[count] = key;
                count++;
            }
        }

        void copy(Row other) {
            begin(other.kind);
            for (int k = 0; k < other.count; k++) {
                append(other.keys[k]);
            }
        }

        long keyAt(int k) {
            return k < 0 || k >= count ? 0 : keys[k];
        }
    }

    /**
     * The rhombs that lie on the table. Corners are 0 A, 1 B, 2 the other A, 3 C; edge e leads from
     * corner e to the next one.
     */
    private static final class Table {
        static final int ROOM = 24;
        static final int FARTHEST = 999;

        private final int[] kinds;
        private final int[] directions;
        private final int[] hands;
        private final long[] corners;
        private final long[] points;
        private int count;
        private int pointCount;

        Table() {
            kinds = new int[ROOM];
            directions = new int[ROOM];
            hands = new int[ROOM];
            corners = new long[4 * ROOM];
            points = new long[4 * ROOM];
        }

        boolean lacks(int k) {
            return k < 0 || k >= count;
        }

        boolean lacksPoint(int point) {
            return point < 0 || point >= pointCount;
        }

        int kindOf(int k) {
            return lacks(k) ? 0 : kinds[k];
        }

        int directionOf(int k) {
            return lacks(k) ? 0 : directions[k];
        }

        int handOf(int k) {
            return lacks(k) ? 0 : hands[k];
        }

        long cornerKey(int k, int corner) {
            return lacks(k) || corner < 0 || corner > 3 ? 0 : corners[4 * k + corner];
        }

        long pointKey(int point) {
            return lacksPoint(point) ? 0 : points[point];
        }

        int pointWith(long key) {
            for (int point = 0; point < pointCount; point++) {
                if (points[point] == key) {
                    return point;
                }
            }
            return NONE;
        }

        int countOf(int kind) {
            int found = 0;
            for (int k = 0; k < count; k++) {
                if (kinds[k] == kind) {
                    found++;
                }
            }
            return found;
        }

        void empty() {
            count = 0;
            pointCount = 0;
        }

        void remove(int gone) {
            for (int k = gone; k < count - 1; k++) {
                kinds[k] = kinds[k + 1];
                directions[k] = directions[k + 1];
                hands[k] = hands[k + 1];
                System.arraycopy(corners, 4 * k + 4, corners, 4 * k, 4);
            }
            count--;
            pointCount = 0;
            for (int k = 0; k < count; k++) {
                notePoints(k);
            }
        }

        private void notePoints(int k) {
            for (int corner = 0; corner < 4; corner++) {
                long key = corners[4 * k + corner];
                if (pointWith(key) < 0 && pointCount < points.length) {
                    points[pointCount] = key;
                    pointCount++;
                }
            }
        }

        /** Lays a rhomb behind the others, if it can lie there: 0, or the STATUS that tells why not. */
        int tryToLay(int kind, long a, int d, int hand) {
            if (count >= ROOM) {
                return TOO_MANY;
            }
            long toB = Ring.step(d);
            long toC = Ring.step(d + breadth(kind) * (1 - 2 * hand));
            kinds[count] = kind;
            directions[count] = d;
            hands[count] = hand;
            corners[4 * count] = a;
            corners[4 * count + 1] = Ring.plus(a, toB);
            corners[4 * count + 2] = Ring.plus(Ring.plus(a, toB), toC);
            corners[4 * count + 3] = Ring.plus(a, toC);
            for (int k = 0; k < count; k++) {
                if (inTheWay(k, count)) {
                    return IN_THE_WAY;
                }
            }
            for (int k = 0; k < count; k++) {
                if (unlikeEdge(k, count)) {
                    return UNLIKE;
                }
            }
            count++;
            notePoints(count - 1);
            return 0;
        }

        static int breadth(int kind) {
            return kind == 0 ? 1 : 3;
        }

        /** Whether a rhomb may have its A at a point. */
        static boolean reaches(long a) {
            return Ring.fits(Ring.part(a, 0), Ring.part(a, 1), Ring.part(a, 2), Ring.part(a, 3), FARTHEST);
        }

        private boolean inTheWay(int k, int other) {
            return !(apart(k, other) || apart(other, k)) || cornerWithin(k, other) || cornerWithin(other, k);
        }

        /** Whether all of the other rhomb lies beyond one edge of a rhomb. */
        private boolean apart(int k, int other) {
            int inward = 1 - 2 * hands[k];
            for (int e = 0; e < 4; e++) {
                boolean beyond = true;
                for (int corner = 0; corner < 4 && beyond; corner++) {
                    long from = Ring.minus(corners[4 * other + corner], corners[4 * k + e]);
                    beyond = inward * Ring.sideOf(edgeDirection(k, e), from) <= 0;
                }
                if (beyond) {
                    return true;
                }
            }
            return false;
        }

        private boolean cornerWithin(int k, int other) {
            for (int e = 0; e < 4; e++) {
                for (int corner = 0; corner < 4; corner++) {
                    long from = Ring.minus(corners[4 * other + corner], corners[4 * k + e]);
                    if (Ring.withinStep(edgeDirection(k, e), from)) {
                        return true;
                    }
                }
            }
            return false;
        }

        private boolean unlikeEdge(int k, int other) {
            for (int e = 0; e < 4; e++) {
                int f = edgeLike(k, e, other);
                if (f >= 0 && (markOf(e) != markOf(f) || arrowHead(k, e) != arrowHead(other, f))) {
                    return true;
                }
            }
            return false;
        }

        /** The edge of the other rhomb that has the ends of an edge; below 0 if none has. */
        private int edgeLike(int k, int e, int other) {
            long one = corners[4 * k + e];
            long two = corners[4 * k + (e + 1) % 4];
            for (int f = 0; f < 4; f++) {
                long from = corners[4 * other + f];
                long to = corners[4 * other + (f + 1) % 4];
                if (from == one && to == two || from == two && to == one) {
                    return f;
                }
            }
            return NONE;
        }

        int edgesShared(int k) {
            int shared = 0;
            for (int e = 0; e < 4 && !lacks(k); e++) {
                boolean found = false;
                for (int other = 0; other < count && !found; other++) {
                    found = other != k && edgeLike(k, e, other) >= 0;
                }
                shared += found ? 1 : 0;
            }
            return shared;
        }

        private int edgeDirection(int k, int e) {
            int turn = breadth(kinds[k]) * (1 - 2 * hands[k]);
            return directions[k] + (e % 2) * turn + (e < 2 ? 0 : 5);
        }

        private static int markOf(int e) {
            return e < 2 ? 0 : 1;
        }

        /** Whether an edge's arrow leads the way from corner e to the next one. */
        private boolean leadsOn(int k, int e) {
            boolean thick = kinds[k] == 1;
            return e < 2 && thick ? e == 1 : e % 2 == 0;
        }

        private long arrowHead(int k, int e) {
            return corners[4 * k + (leadsOn(k, e) ? (e + 1) % 4 : e)];
        }

        int sectorWidth(int k, int corner) {
            int breadth = breadth(kindOf(k));
            return corner % 2 == 0 ? breadth : 5 - breadth;
        }

        /** The direction in which a sector begins, seen from its corner. */
        int sectorStart(int k, int corner) {
            int ahead = edgeDirection(k, corner);
            int back = edgeDirection(k, (corner + 3) % 4) + 5;
            return Math.floorMod(handOf(k) == 0 ? ahead : back, 10);
        }

        /** The label of the edge with which a sector begins, or ends: its mark times 2, and 1 if the arrow leads in. */
        int sectorLabel(int k, int corner, boolean atEnd) {
            boolean onward = (handOf(k) == 0) != atEnd;
            int e = onward ? corner : (corner + 3) % 4;
            return 2 * markOf(e) + (leadsOn(k, e) == onward ? 0 : 1);
        }
    }

    /** What lies round one point of the table, and in how many ways the rest can be filled. */
    private static final class Round {
        static final int FORCED_POINT = 1;
        static final int DEAD_POINT = 2;
        private static final int LABELS = 4;
        // The sectors that can come, by width and by the labels of their first and last edge: thin
        // at A with B first, with C first, at B, at C; then thick ones in the same order.
        private static final int[] WIDTHS = {1, 1, 4, 4, 3, 3, 2, 2};
        private static final int[] FROM = {0, 2, 1, 3, 1, 2, 0, 3};
        private static final int[] TO = {2, 0, 1, 3, 2, 1, 0, 3};

        private final int[] walks;
        private final boolean[] full;
        private final int[] labels;
        private int filled;
        private int stretches;
        private int widest;
        private int fillings;
        private int firstGap;
        private int firstWidth;

        Round() {
            walks = new int[10 * LABELS * LABELS];
            full = new boolean[10];
            labels = new int[10];
            for (int label = 0; label < LABELS; label++) {
                walks[walkAt(0, label, label)] = 1;
            }
            for (int width = 1; width < 10; width++) {
                for (int option = 0; option < WIDTHS.length; option++) {
                    for (int to = 0; to < LABELS && WIDTHS[option] <= width; to++) {
                        walks[walkAt(width, FROM[option], to)] += walks[walkAt(width - WIDTHS[option], TO[option], to)];
                    }
                }
            }
        }

        private static int walkAt(int width, int from, int to) {
            return (width * LABELS + from) * LABELS + to;
        }

        void look(Table table, int point) {
            for (int d = 0; d < 10; d++) {
                full[d] = false;
                labels[d] = 0;
            }
            filled = 0;
            long key = table.pointKey(point);
            for (int k = 0; k < table.count; k++) {
                for (int corner = 0; corner < 4; corner++) {
                    if (table.cornerKey(k, corner) == key) {
                        addSector(table, k, corner);
                    }
                }
            }
            measureGaps();
        }

        private void addSector(Table table, int k, int corner) {
            int begin = table.sectorStart(k, corner);
            int width = table.sectorWidth(k, corner);
            for (int n = 0; n < width; n++) {
                full[(begin + n) % 10] = true;
            }
            labels[begin] = table.sectorLabel(k, corner, false);
            labels[(begin + width) % 10] = table.sectorLabel(k, corner, true);
            filled += width;
        }

        private void measureGaps() {
            stretches = 0;
            widest = 0;
            fillings = 1;
            firstGap = NONE;
            firstWidth = 0;
            for (int begin = 0; begin < 10; begin++) {
                if (!full[begin] && full[(begin + 9) % 10]) {
                    int width = 1;
                    while (width < 9 && !full[(begin + width) % 10]) {
                        width++;
                    }
                    firstWidth = stretches == 0 ? width : firstWidth;
                    firstGap = stretches == 0 ? begin : firstGap;
                    stretches++;
                    widest = Math.max(widest, width);
                    fillings *= walks[walkAt(width, labels[begin], labels[(begin + width) % 10])];
                }
            }
        }

        /** What a point is: 0 all taken, 1 forced, 2 dead, 3 else. */
        private int stateOf(Table table, int point) {
            look(table, point);
            if (filled >= 10) {
                return 0;
            }
            return fillings == 0 ? DEAD_POINT : fillings == 1 ? FORCED_POINT : 3;
        }

        int countOf(Table table, int state) {
            int found = 0;
            for (int point = 0; point < table.pointCount; point++) {
                if (stateOf(table, point) == state) {
                    found++;
                }
            }
            return found;
        }

        int firstOf(Table table, int state) {
            for (int point = 0; point < table.pointCount; point++) {
                if (stateOf(table, point) == state) {
                    return point;
                }
            }
            return NONE;
        }

        /** Lays the first sector of the first gap's only filling; false if it can't be laid. */
        boolean fillFirst(Table table, int point) {
            look(table, point);
            int option = firstOption();
            if (option < 0) {
                return false;
            }
            int kind = option / 4;
            int place = option % 4;
            int breadth = Table.breadth(kind);
            long a = table.pointKey(point);
            int d = firstGap;
            if (place == 1) {
                d = firstGap + breadth;
            } else if (place > 1) {
                a = Ring.plus(a, Ring.step(firstGap));
                d = firstGap + (place == 2 ? 5 : 5 - breadth);
            }
            int hand = place == 1 || place == 2 ? 1 : 0;
            return Table.reaches(a) && table.tryToLay(kind, a, d % 10, hand) == 0;
        }

        private int firstOption() {
            if (firstGap < 0) {
                return NONE;
            }
            int end = labels[(firstGap + firstWidth) % 10];
            for (int option = 0; option < WIDTHS.length; option++) {
                int left = firstWidth - WIDTHS[option];
                if (left >= 0 && FROM[option] == labels[firstGap] && walks[walkAt(left, TO[option], end)] > 0) {
                    return option;
                }
            }
            return NONE;
        }
    }

    /** The tape, and the reader of a text of a table from it. */
    private static final class Reader {
        private static final int ROOM = 900;
        private static final int END = 0;
        private static final int WORD = 1;
        private static final int NUMBER = 2;
        private static final int SIGN = 3;
        private static final int NO_TOKEN = 4;

        private final byte[] tape;
        private final int[] counts;
        private int fed;
        private int length;
        private int token;
        private int tokenStart;
        private int tokenEnd;
        private int value;
        private int setting;
        private int faultKind;
        private int faultPlace;

        Reader() {
            tape = new byte[ROOM];
            counts = new int[4];
            faultKind = NONE;
            faultPlace = NONE;
        }

        boolean hasRoomFor(int bytes) {
            return fed + bytes <= ROOM;
        }

        void append(int four) {
            for (int shift = 24; shift >= 0 && fed < ROOM; shift -= 8) {
                tape[fed] = (byte) (four >> shift);
                fed++;
            }
        }

        /** Reads the first bytes of the tape onto a table, and empties the tape; false by a fault. */
        boolean read(int bytes, Table onto) {
            length = Math.min(bytes, fed);
            fed = 0;
            tokenEnd = 0;
            faultKind = 0;
            faultPlace = NONE;
            onto.empty();
            nextToken();
            for (int lines = 0; lines <= Table.ROOM && token != END; lines++) {
                if (!readLine(onto)) {
                    return false;
                }
            }
            return true;
        }

        private boolean readLine(Table onto) {
            int begin = tokenStart;
            int kind = isWord("thin") ? 0 : isWord("thick") ? 1 : NONE;
            if (kind < 0) {
                return stopHere();
            }
            if (onto.count >= Table.ROOM) {
                return stop(4, begin);
            }
            nextToken();
            for (int which = 0; which < 4; which++) {
                if (!readCount(which)) {
                    return false;
                }
            }
            if (!readSetting("turn", 9)) {
                return false;
            }
            int d = setting;
            if (!readSetting("hand", 1)) {
                return false;
            }
            int hand = setting;
            if (!isSign(';')) {
                return stopHere();
            }
            int why = onto.tryToLay(kind, Ring.key(counts[0], counts[1], counts[2], counts[3]), d, hand);
            if (why != 0) {
                return stop(why, begin);
            }
            nextToken();
            return true;
        }

        private boolean readCount(int which) {
            boolean below = isSign('-');
            if (below) {
                nextToken();
            }
            if (token != NUMBER) {
                return stopHere();
            }
            counts[which] = below ? -value : value;
            nextToken();
            return true;
        }

        private boolean readSetting(String name, int most) {
            if (!isWord(name)) {
                return stopHere();
            }
            nextToken();
            if (token != NUMBER) {
                return stopHere();
            }
            if (value > most) {
                return stop(3, tokenStart);
            }
            setting = value;
            nextToken();
            return true;
        }

        private boolean stopHere() {
            return stop(token == NO_TOKEN ? 1 : 2, tokenStart);
        }

        private boolean stop(int kind, int place) {
            faultKind = kind;
            faultPlace = place;
            return false;
        }

        private int byteAt(int i) {
            return i < 0 || i >= length || i >= ROOM ? NONE : tape[i] & 255;
        }

        private static boolean isLetter(int sign) {
            return sign >= 'a' && sign <= 'z';
        }

        private static boolean isDigit(int sign) {
            return sign >= '0' && sign <= '9';
        }

        private void nextToken() {
            int at = tokenEnd;
            while (at < length && (byteAt(at) == 10 || byteAt(at) == 32)) {
                at++;
            }
            tokenStart = at;
            int sign = byteAt(at);
            if (sign < 0) {
                token = END;
            } else if (isLetter(sign)) {
                token = WORD;
                while (at < length && isLetter(byteAt(at))) {
                    at++;
                }
            } else if (isDigit(sign)) {
                at = passNumber(at);
            } else {
                token = sign == '-' || sign == ';' ? SIGN : NO_TOKEN;
                at++;
            }
            tokenEnd = at;
        }

        private int passNumber(int from) {
            int at = from;
            value = 0;
            while (at < length && isDigit(byteAt(at))) {
                value = Math.min(10 * value + byteAt(at) - '0', 9999);
                at++;
            }
            token = at - from > 3 ? NO_TOKEN : NUMBER;
            return at;
        }

        private boolean isSign(char sign) {
            return token == SIGN && byteAt(tokenStart) == sign;
        }

        private boolean isWord(String name) {
            if (token != WORD || tokenEnd - tokenStart != name.length()) {
                return false;
            }
            for (int i = 0; i < name.length(); i++) {
                if (byteAt(tokenStart + i) != name.charAt(i)) {
                    return false;
                }
            }
            return true;
        }
    }

    /** OUT, and the writer of a table's text into it. */
    private static final class Printer {
        // 24 lines of at most 44 bytes: thick - 999 - 999 - 999 - 999 turn 9 hand 1;
        private static final int ROOM = 24 * 44;

        private final byte[] bytes;
        private int count;

        Printer() {
            bytes = new byte[ROOM];
        }

        int byteAt(int i) {
            return i < 0 || i >= count ? NONE : bytes[i];
        }

        void write(Table table) {
            count = 0;
            for (int k = 0; k < table.count; k++) {
                writeWord(table.kindOf(k) == 0 ? "thin" : "thick");
                for (int which = 0; which < 4; which++) {
                    int number = Ring.part(table.cornerKey(k, 0), which);
                    if (number < 0) {
                        writeWord(" -");
                    }
                    writeNumber(Math.abs(number));
                }
                writeWord(" turn");
                writeNumber(table.directionOf(k));
                writeWord(" hand");
                writeNumber(table.handOf(k));
                writeWord(";");
            }
        }

        private void writeByte(int sign) {
            if (count < ROOM) {
                bytes[count] = (byte) sign;
                count++;
            }
        }

        private void writeWord(String word) {
            for (int i = 0; i < word.length(); i++) {
                writeByte(word.charAt(i));
            }
        }

        private void writeNumber(int number) {
            writeByte(' ');
            if (number >= 100) {
                writeByte('0' + number / 100 % 10);
            }
            if (number >= 10) {
                writeByte('0' + number / 10 % 10);
            }
            writeByte('0' + number % 10);
        }
    }
}

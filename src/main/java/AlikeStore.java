import java.util.Arrays;

/** A store of codes that are alike by their bits; ../shared/DOC.md says what each call must do. */
public final class AlikeStore {
    public static final int NONE = -1;

    private static final int MAX_BITS = 48;
    private static final int MIN_BITS = 4;
    private static final int USUAL_BITS = 16;
    private static final int MAX_PARTS = 6;
    private static final int MAX_BREADTH = 24;
    private static final int MAX_CODES = 32;
    private static final int MAX_TAG = 9;
    private static final int MAX_TEXT = 900;
    private static final int FED_BYTES = 20;
    private static final int MAX_ACTS = 12;
    private static final int MAX_MARKS = 3;

    private static final int FINE = 0;
    private static final int CANNOT_BE = 1;
    private static final int NO_SUCH = 2;
    private static final int TOO_MANY = 3;
    private static final int IS_SO = 4;
    private static final int MISSING = 5;
    private static final int NOT_TO_THAT = 6;
    private static final int FAULTY = 9;

    private final Store store = new Store();
    private final Reader reader = new Reader();
    private final History history = new History();
    private final Budgets budgets = new Budgets();
    private final Ranking ranking = new Ranking();
    private int latest = FINE;
    private int faultKind = NONE;
    private int faultPlace = NONE;

    public AlikeStore() {
    }

    public int status() {
        return latest;
    }

    public int feed(int a, int b, int c, int d, int e) {
        Tape tape = reader.tape;
        if (tape.size + FED_BYTES > MAX_TEXT) {
            return NONE;
        }
        tape.put(a);
        tape.put(b);
        tape.put(c);
        tape.put(d);
        tape.put(e);
        return tape.size;
    }

    public int load(int n) {
        if (n < 0 || n > reader.tape.size) {
            return refuse(CANNOT_BE);
        }
        faultKind = reader.read(n);
        faultPlace = faultKind == FINE ? NONE : reader.place();
        reader.tape.size = 0;
        if (faultKind != FINE) {
            return refuse(FAULTY);
        }
        history.keep(store);
        store.become(reader.store);
        return answer(store.size);
    }

    public int fault(int what) {
        if (what == 0) {
            return faultKind;
        }
        return what == 1 ? faultPlace : NONE;
    }

    // ---- what there is

    public int many(int what) {
        switch (what) {
            case 0:
                return answer(store.bits);
            case 1:
                return answer(store.parts);
            case 2:
                return answer(store.size);
            case 3:
                return answer(Integer.bitCount(store.counting()));
            case 4:
                return answer(store.counting());
            case 5:
                return answer(history.kept);
            case 6:
                return answer(history.marked);
            case 7:
                return answer(store.filter == null ? 0 : 1);
            default:
                return refuse(CANNOT_BE);
        }
    }

    public long code(int code) {
        if (!isCode(code)) {
            return refuse(NO_SUCH);
        }
        return answerLong(store.codes[code]);
    }

    public int tagOf(int code) {
        if (!isCode(code)) {
            return refuse(NO_SUCH);
        }
        return answer(store.tags[code]);
    }

    public int breadth(int part) {
        if (!isPart(part)) {
            return refuse(NO_SUCH);
        }
        return answer(store.breadths[part]);
    }

    public int key(int code, int part) {
        if (!isCode(code) || !isPart(part)) {
            return refuse(NO_SUCH);
        }
        return answer(store.keyOf(code, part));
    }

    public int far(int code, long from) {
        if (!isNumber(from)) {
            return refuse(CANNOT_BE);
        }
        if (!isCode(code)) {
            return refuse(NO_SUCH);
        }
        return answer(unlike(store.codes[code], from));
    }

    public int measure(int code, int other, int measure) {
        if (!isBelow(measure, 4)) {
            return refuse(CANNOT_BE);
        }
        if (!isCode(code) || !isCode(other)) {
            return refuse(NO_SUCH);
        }
        return answer(measureOf(store.codes[code] ^ store.codes[other], measure));
    }

    public int find(long number) {
        if (!isNumber(number)) {
            return refuse(CANNOT_BE);
        }
        int code = store.whereIs(number);
        if (code == NONE) {
            return refuse(MISSING);
        }
        return answer(code);
    }

    // ---- ACTS

    public int add(long code) {
        if (!isNumber(code)) {
            return refuse(CANNOT_BE);
        }
        if (store.size >= MAX_CODES) {
            return refuse(TOO_MANY);
        }
        if (store.whereIs(code) != NONE) {
            return refuse(IS_SO);
        }
        history.keep(store);
        store.append(code, 0);
        return answer(store.size - 1);
    }

    public int strike(int code) {
        if (!isCode(code)) {
            return refuse(NO_SUCH);
        }
        history.keep(store);
        store.drop(code);
        return answer(store.size);
    }

    public int flip(int code, int bit) {
        if (!isBit(bit)) {
            return refuse(CANNOT_BE);
        }
        if (!isCode(code)) {
            return refuse(NO_SUCH);
        }
        long turned = store.codes[code] ^ 1L << bit;
        if (store.whereIs(turned) != NONE) {
            return refuse(IS_SO);
        }
        history.keep(store);
        store.codes[code] = turned;
        return answer(bitOf(turned, bit));
    }

    public int swap(int bit, int other) {
        if (!isBit(bit) || !isBit(other)) {
            return refuse(CANNOT_BE);
        }
        if (bit == other) {
            return refuse(IS_SO);
        }
        history.keep(store);
        return answer(store.exchange(bit, other));
    }

    public int tag(int code, int tag) {
        if (tag < 0 || tag > MAX_TAG) {
            return refuse(CANNOT_BE);
        }
        if (!isCode(code)) {
            return refuse(NO_SUCH);
        }
        int old = store.tags[code];
        if (old == tag) {
            return refuse(IS_SO);
        }
        history.keep(store);
        store.tags[code] = tag;
        return answer(old);
    }

    public int split(int part, int breadth) {
        if (breadth < 1 || isPart(part) && breadth >= store.breadths[part]) {
            return refuse(CANNOT_BE);
        }
        if (!isPart(part)) {
            return refuse(NO_SUCH);
        }
        if (store.parts >= MAX_PARTS) {
            return refuse(TOO_MANY);
        }
        history.keep(store);
        store.cutPart(part, breadth);
        return answer(store.parts);
    }

    public int merge(int part) {
        if (!isPart(part) || !isPart(part + 1)) {
            return refuse(NO_SUCH);
        }
        if (store.breadths[part] + store.breadths[part + 1] > MAX_BREADTH) {
            return refuse(NOT_TO_THAT);
        }
        history.keep(store);
        store.joinPart(part);
        return answer(store.parts);
    }

    public int open() {
        if (store.filter == null) {
            return refuse(MISSING);
        }
        history.keep(store);
        store.filter = null;
        return answer(0);
    }

    public int undo() {
        if (history.kept == 0) {
            return refuse(MISSING);
        }
        history.takeBackAct(store);
        return answer(history.kept);
    }

    public int mark() {
        if (history.marked >= MAX_MARKS) {
            return refuse(TOO_MANY);
        }
        history.putMark(store);
        return answer(history.marked);
    }

    public int back() {
        if (history.marked == 0) {
            return refuse(MISSING);
        }
        history.takeBackMark(store);
        return answer(history.marked);
    }

    // ---- by a number and a RADIUS

    public int budget(long number, int radius, int part) {
        if (!isNumber(number) || !isRadius(radius)) {
            return refuse(CANNOT_BE);
        }
        if (!isPart(part)) {
            return refuse(NO_SUCH);
        }
        budgets.partLike(store);
        budgets.plan(store.codes, store.counting(), number, radius);
        return answer(budgets.chosen[part]);
    }

    public int cost(long number, int part, int budget) {
        if (!isNumber(number) || budget < -1 || isPart(part) && budget > store.breadths[part]) {
            return refuse(CANNOT_BE);
        }
        if (!isPart(part)) {
            return refuse(NO_SUCH);
        }
        budgets.partLike(store);
        budgets.weigh(store.codes, store.counting(), number);
        return answer(budgets.costs[part][budget + 1]);
    }

    public int near(long number, int radius, int what) {
        if (!isNumber(number) || !isRadius(radius) || !isBelow(what, 5)) {
            return refuse(CANNOT_BE);
        }
        int set = store.counting();
        budgets.partLike(store);
        int cost = budgets.plan(store.codes, set, number, radius);
        int candidates = budgets.candidates(store.codes, set, number);
        int found = store.within(set, number, radius);
        switch (what) {
            case 0:
                return answer(cost);
            case 1:
                return answer(Integer.bitCount(candidates));
            case 2:
                return answer(Integer.bitCount(found));
            case 3:
                return answer(candidates);
            default:
                return answer(found);
        }
    }

    public int ranked(long number, int k) {
        if (!isNumber(number) || k < 0) {
            return refuse(CANNOT_BE);
        }
        ranking.rank(store.codes, store.counting(), number);
        if (k >= ranking.size) {
            return refuse(MISSING);
        }
        return answer(ranking.order[k]);
    }

    public int grown(long number, int k, int what) {
        if (!isNumber(number) || k < 1 || !isBelow(what, 2)) {
            return refuse(CANNOT_BE);
        }
        int set = store.counting();
        if (Integer.bitCount(set) < k) {
            return refuse(NOT_TO_THAT);
        }
        budgets.partLike(store);
        budgets.weigh(store.codes, set, number);
        budgets.tabulate(store.bits);
        int radius = 0;
        int spent = budgets.choose(radius);
        while (radius < store.bits && Integer.bitCount(store.within(set, number, radius)) < k) {
            radius++;
            spent += budgets.choose(radius);
        }
        return answer(what == 0 ? radius : spent);
    }

    public int apart(long number, int radius, int k, int i) {
        if (!isNumber(number) || !isRadius(radius) || k < 1 || k > MAX_CODES || i < 0) {
            return refuse(CANNOT_BE);
        }
        ranking.rank(store.codes, store.within(store.counting(), number, radius), number);
        if (i >= k || i >= ranking.size) {
            return refuse(MISSING);
        }
        return answer(ranking.takenApart(store.codes, i));
    }

    // ---- among themselves

    public int pairs(int radius) {
        if (!isRadius(radius)) {
            return refuse(CANNOT_BE);
        }
        int set = store.counting();
        int count = 0;
        for (int i = 0; i < MAX_CODES; i++) {
            if (isIn(set, i)) {
                count += Integer.bitCount(store.within(set & above(i), store.codes[i], radius));
            }
        }
        return answer(count);
    }

    public int pair(int radius, int i, int what) {
        if (!isRadius(radius) || i < 0 || !isBelow(what, 3)) {
            return refuse(CANNOT_BE);
        }
        int two = pairAt(store.counting(), radius, i);
        if (two == NONE) {
            return refuse(MISSING);
        }
        return answer(ofPacked(two, what));
    }

    public int joined(int radius) {
        if (!isRadius(radius)) {
            return refuse(CANNOT_BE);
        }
        int set = store.counting();
        int together = 0;
        budgets.partLike(store);
        for (int i = 0; i < MAX_CODES; i++) {
            if (isIn(set, i)) {
                together += budgets.plan(store.codes, set & above(i), store.codes[i], radius);
            }
        }
        return answer(together);
    }

    public int closest(int what) {
        if (!isBelow(what, 3)) {
            return refuse(CANNOT_BE);
        }
        int two = closestPair(store.counting());
        if (two == NONE) {
            return refuse(MISSING);
        }
        return answer(ofPacked(two, what));
    }

    public int clusters(int radius, int what) {
        if (!isRadius(radius) || !isBelow(what, 3)) {
            return refuse(CANNOT_BE);
        }
        int left = store.counting();
        int count = 0;
        int most = 0;
        int greatest = NONE;
        for (int i = 0; i < MAX_CODES; i++) {
            if (isIn(left, i)) {
                int members = clusterWith(left, i, radius);
                left &= ~members;
                count++;
                if (Integer.bitCount(members) > most) {
                    most = Integer.bitCount(members);
                    greatest = i;
                }
            }
        }
        if (what == 2) {
            return greatest == NONE ? refuse(MISSING) : answer(greatest);
        }
        return answer(what == 0 ? count : most);
    }

    public int cluster(int code, int radius, int what) {
        if (!isRadius(radius) || !isBelow(what, 3)) {
            return refuse(CANNOT_BE);
        }
        if (!isCode(code)) {
            return refuse(NO_SUCH);
        }
        int set = store.counting();
        if (!isIn(set, code)) {
            return refuse(NOT_TO_THAT);
        }
        int members = clusterWith(set, code, radius);
        if (what == 1) {
            return answer(Integer.bitCount(members));
        }
        return answer(what == 0 ? leastOf(members) : middleOf(members));
    }

    public long vote(int set) {
        if ((set & ~store.all()) != 0) {
            return refuse(CANNOT_BE);
        }
        long chosen = 0;
        int voters = Integer.bitCount(set);
        for (int bit = 0; bit < store.bits; bit++) {
            if (store.onesAt(set, bit) * 2 > voters) {
                chosen |= 1L << bit;
            }
        }
        return answerLong(chosen);
    }

    public int like(long mask, long number) {
        if (!isNumber(mask) || !isNumber(number)) {
            return refuse(CANNOT_BE);
        }
        int set = store.counting();
        int found = 0;
        for (int i = 0; i < MAX_CODES; i++) {
            if (isIn(set, i) && ((store.codes[i] ^ number) & mask) == 0) {
                found |= 1 << i;
            }
        }
        return answer(found);
    }

    public int ones(int bit) {
        if (!isBit(bit)) {
            return refuse(CANNOT_BE);
        }
        return answer(store.onesAt(store.counting(), bit));
    }

    public int telling() {
        int set = store.counting();
        int size = Integer.bitCount(set);
        int best = 0;
        int leastGap = size + 1;
        for (int bit = 0; bit < store.bits; bit++) {
            int gap = Math.abs(size - 2 * store.onesAt(set, bit));
            if (gap < leastGap) {
                leastGap = gap;
                best = bit;
            }
        }
        return answer(best);
    }

    public int alike(int bit, int other) {
        if (!isBit(bit) || !isBit(other)) {
            return refuse(CANNOT_BE);
        }
        int set = store.counting();
        int count = 0;
        for (int i = 0; i < MAX_CODES; i++) {
            if (isIn(set, i) && bitOf(store.codes[i], bit) == bitOf(store.codes[i], other)) {
                count++;
            }
        }
        return answer(count);
    }

    public int spread(int part, int what) {
        if (!isBelow(what, 2)) {
            return refuse(CANNOT_BE);
        }
        if (!isPart(part)) {
            return refuse(NO_SUCH);
        }
        int left = store.counting();
        int unlike = 0;
        int most = 0;
        for (int i = 0; i < MAX_CODES; i++) {
            if (isIn(left, i)) {
                int same = store.sameKey(left, i, part);
                left &= ~same;
                unlike++;
                most = Math.max(most, Integer.bitCount(same));
            }
        }
        return answer(what == 0 ? unlike : most);
    }

    public int parted(int breadth, int radius) {
        if (!isRadius(radius) || breadth < 1 || breadth > MAX_BREADTH) {
            return refuse(CANNOT_BE);
        }
        if (!isUpper(store.bits - breadth)) {
            return refuse(NOT_TO_THAT);
        }
        return answer(costParted(store.counting(), breadth, radius));
    }

    public int bestPart(int radius) {
        if (!isRadius(radius)) {
            return refuse(CANNOT_BE);
        }
        int set = store.counting();
        int best = NONE;
        int leastCost = 0;
        for (int breadth = 1; breadth <= MAX_BREADTH; breadth++) {
            if (isUpper(store.bits - breadth)) {
                int cost = costParted(set, breadth, radius);
                if (best == NONE || cost < leastCost) {
                    leastCost = cost;
                    best = breadth;
                }
            }
        }
        return answer(best);
    }

    // ---- what the calls share

    private int refuse(int kind) {
        latest = kind;
        return NONE;
    }

    private int answer(int value) {
        latest = FINE;
        return value;
    }

    private long answerLong(long value) {
        latest = FINE;
        return value;
    }

    private boolean isNumber(long number) {
        return number >= 0 && number >> store.bits == 0;
    }

    private boolean isRadius(int radius) {
        return radius >= 0 && radius <= store.bits;
    }

    private boolean isBit(int bit) {
        return bit >= 0 && bit < store.bits;
    }

    private boolean isCode(int code) {
        return code >= 0 && code < store.size;
    }

    private boolean isPart(int part) {
        return part >= 0 && part < store.parts;
    }

    private static boolean isUpper(int breadth) {
        return breadth >= 1 && breadth <= MAX_BREADTH;
    }

    private static boolean isBelow(int what, int bound) {
        return what >= 0 && what < bound;
    }

    private static boolean isIn(int set, int code) {
        return (set >>> code & 1) != 0;
    }

    /** The SET of all numbers behind one; -2 and not -1, as a shift by 32 would be none. */
    private static int above(int code) {
        return -2 << code;
    }

    private static int leastOf(int set) {
        for (int i = 0; i < MAX_CODES; i++) {
            if (isIn(set, i)) {
                return i;
            }
        }
        return NONE;
    }

    private static int unlike(long one, long other) {
        return Long.bitCount(one ^ other);
    }

    private static int bitOf(long number, int bit) {
        return (int) (number >>> bit & 1);
    }

    private static int measureOf(long differing, int measure) {
        switch (measure) {
            case 0:
                return Long.bitCount(differing);
            case 1:
                return Long.bitCount(differing & ~(differing << 1));
            case 2:
                return reachOf(differing);
            default:
                return longestRun(differing);
        }
    }

    private static int reachOf(long differing) {
        int lowest = MAX_BITS;
        int highest = MAX_BITS - 1;
        for (int bit = 0; bit < MAX_BITS; bit++) {
            if (bitOf(differing, bit) == 1) {
                lowest = Math.min(lowest, bit);
                highest = bit;
            }
        }
        return highest - lowest + 1;
    }

    private static int longestRun(long differing) {
        int longest = 0;
        int run = 0;
        for (int bit = 0; bit < MAX_BITS; bit++) {
            run = bitOf(differing, bit) == 1 ? run + 1 : 0;
            longest = Math.max(longest, run);
        }
        return longest;
    }

    /** Packed so that of two the lesser is the one less FAR, then the first as PAIRS go. */
    private int packPair(int lesser, int other) {
        return unlike(store.codes[lesser], store.codes[other]) << 10 | lesser << 5 | other;
    }

    private static int ofPacked(int two, int what) {
        if (what == 2) {
            return two >> 10;
        }
        return what == 0 ? two >> 5 & 31 : two & 31;
    }

    private int pairAt(int set, int radius, int place) {
        int passed = 0;
        for (int i = 0; i < MAX_CODES; i++) {
            int others = isIn(set, i) ? store.within(set & above(i), store.codes[i], radius) : 0;
            for (int j = i + 1; j < MAX_CODES; j++) {
                if (isIn(others, j)) {
                    if (passed == place) {
                        return packPair(i, j);
                    }
                    passed++;
                }
            }
        }
        return NONE;
    }

    private int closestPair(int set) {
        int best = NONE;
        for (int i = 0; i < MAX_CODES; i++) {
            for (int j = i + 1; j < MAX_CODES; j++) {
                if (isIn(set, i) && isIn(set, j)) {
                    int two = packPair(i, j);
                    best = best == NONE ? two : Math.min(best, two);
                }
            }
        }
        return best;
    }

    private int clusterWith(int set, int code, int radius) {
        int members = 1 << code;
        int fresh = members;
        // Each turn takes one CODE out of those that have not been asked yet.
        for (int turn = 0; turn < MAX_CODES && fresh != 0; turn++) {
            int asked = leastOf(fresh);
            int reached = store.within(set & ~members, store.codes[asked], radius);
            members |= reached;
            fresh = fresh & ~(1 << asked) | reached;
        }
        return members;
    }

    private int middleOf(int members) {
        int best = NONE;
        int leastFar = 0;
        for (int i = 0; i < MAX_CODES; i++) {
            if (isIn(members, i)) {
                int together = store.farFromAll(members, store.codes[i]);
                if (best == NONE || together < leastFar) {
                    leastFar = together;
                    best = i;
                }
            }
        }
        return best;
    }

    private int costParted(int set, int lower, int radius) {
        int together = 0;
        budgets.partInTwo(lower, store.bits - lower);
        for (int i = 0; i < MAX_CODES; i++) {
            if (isIn(set, i)) {
                together += budgets.plan(store.codes, set, store.codes[i], radius);
            }
        }
        return together;
    }

    /** The bytes that came by feed() and wait for load(). */
    private static final class Tape {
        final byte[] bytes = new byte[MAX_TEXT];
        int size = 0;

        void put(int four) {
            for (int shift = 24; shift >= 0 && size < MAX_TEXT; shift -= 8) {
                bytes[size] = (byte) (four >> shift);
                size++;
            }
        }
    }

    /** All that a STORE tells, and that ACTS change. */
    private static final class Store {
        int bits = USUAL_BITS;
        int parts = 0;
        final int[] breadths = new int[MAX_PARTS];
        int size = 0;
        final long[] codes = new long[MAX_CODES];
        final int[] tags = new int[MAX_CODES];
        Filter filter = null;

        Store() {
            halve();
        }

        void clear() {
            bits = USUAL_BITS;
            size = 0;
            filter = null;
        }

        void halve() {
            parts = 2;
            breadths[0] = bits - bits / 2;
            breadths[1] = bits / 2;
        }

        void become(Store other) {
            bits = other.bits;
            parts = other.parts;
            size = other.size;
            filter = other.filter;
            System.arraycopy(other.breadths, 0, breadths, 0, MAX_PARTS);
            System.arraycopy(other.codes, 0, codes, 0, MAX_CODES);
            System.arraycopy(other.tags, 0, tags, 0, MAX_CODES);
        }

        void append(long code, int tag) {
            if (size < MAX_CODES) {
                codes[size] = code;
                tags[size] = tag;
                size++;
            }
        }

        void drop(int code) {
            for (int i = code; i + 1 < size; i++) {
                codes[i] = codes[i + 1];
                tags[i] = tags[i + 1];
            }
            size--;
        }

        int exchange(int bit, int other) {
            int changed = 0;
            for (int i = 0; i < size; i++) {
                if (bitOf(codes[i], bit) != bitOf(codes[i], other)) {
                    codes[i] ^= 1L << bit | 1L << other;
                    changed++;
                }
            }
            return changed;
        }

        void cutPart(int part, int breadth) {
            for (int i = Math.min(parts, MAX_PARTS - 1); i > part; i--) {
                breadths[i] = breadths[i - 1];
            }
            breadths[part] = breadth;
            breadths[part + 1] -= breadth;
            parts++;
        }

        void joinPart(int part) {
            breadths[part] += breadths[part + 1];
            for (int i = part + 1; i + 1 < parts; i++) {
                breadths[i] = breadths[i + 1];
            }
            parts--;
        }

        int whereIs(long number) {
            for (int i = 0; i < size; i++) {
                if (codes[i] == number) {
                    return i;
                }
            }
            return NONE;
        }

        int keyOf(int code, int part) {
            int start = 0;
            for (int i = 0; i < part; i++) {
                start += breadths[i];
            }
            return (int) (codes[code] >>> start & (1L << breadths[part]) - 1);
        }

        int all() {
            return size == MAX_CODES ? -1 : (1 << size) - 1;
        }

        int counting() {
            if (filter == null) {
                return all();
            }
            int set = 0;
            for (int i = 0; i < size; i++) {
                if (filter.holds(this, i)) {
                    set |= 1 << i;
                }
            }
            return set;
        }

        int within(int set, long number, int radius) {
            int found = 0;
            for (int i = 0; i < size; i++) {
                if (isIn(set, i) && unlike(codes[i], number) <= radius) {
                    found |= 1 << i;
                }
            }
            return found;
        }

        int sameKey(int set, int code, int part) {
            int found = 0;
            int wanted = keyOf(code, part);
            for (int i = 0; i < size; i++) {
                if (isIn(set, i) && keyOf(i, part) == wanted) {
                    found |= 1 << i;
                }
            }
            return found;
        }

        int onesAt(int set, int bit) {
            int count = 0;
            for (int i = 0; i < size; i++) {
                if (isIn(set, i)) {
                    count += bitOf(codes[i], bit);
                }
            }
            return count;
        }

        int farFromAll(int set, long number) {
            int together = 0;
            for (int i = 0; i < size; i++) {
                if (isIn(set, i)) {
                    together += unlike(codes[i], number);
                }
            }
            return together;
        }
    }

    /** A TEST as steps, each behind those that it joins; never changed, so that copies of a STORE share it. */
    private static final class Filter {
        static final int NOT = 0;
        static final int AND = 1;
        static final int OR = 2;
        static final int ONES = 3;
        static final int TAG = 4;
        static final int NUMBER = 5;
        static final int BIT = 6;
        static final int KEY = 7;
        static final int FAR = 8;

        private final int[] kinds;
        private final int[] signs;
        private final int[] places;
        private final int[] bounds;
        private final long[] froms;

        Filter(Steps steps) {
            int size = steps.size;
            kinds = Arrays.copyOf(steps.kinds, size);
            signs = Arrays.copyOf(steps.signs, size);
            places = Arrays.copyOf(steps.places, size);
            bounds = Arrays.copyOf(steps.bounds, size);
            froms = Arrays.copyOf(steps.froms, size);
        }

        /** What holds is stacked as bits: seven TESTS within one another, of two that wait each, fit. */
        boolean holds(Store store, int code) {
            int stack = 0;
            for (int i = 0; i < kinds.length; i++) {
                int top = stack & 1;
                int rest = stack >>> 1;
                switch (kinds[i]) {
                    case NOT:
                        stack ^= 1;
                        break;
                    case AND:
                        stack = top == 1 ? rest : rest & ~1;
                        break;
                    case OR:
                        stack = rest | top;
                        break;
                    default:
                        stack = stack << 1 | (holdsFact(store, code, i) ? 1 : 0);
                        break;
                }
            }
            return (stack & 1) == 1;
        }

        private boolean holdsFact(Store store, int code, int step) {
            int value = valueOf(store, code, step);
            if (signs[step] == '<') {
                return value < bounds[step];
            }
            return signs[step] == '=' ? value == bounds[step] : value > bounds[step];
        }

        private int valueOf(Store store, int code, int step) {
            int place = places[step];
            switch (kinds[step]) {
                case ONES:
                    return Long.bitCount(store.codes[code]);
                case TAG:
                    return store.tags[code];
                case NUMBER:
                    return code;
                case BIT:
                    return bitOf(store.codes[code], place);
                case KEY:
                    return place < store.parts ? store.keyOf(code, place) : 0;
                default:
                    return unlike(store.codes[code], froms[step]);
            }
        }
    }

    /** Rows in which a FILTER is gathered while it is read. */
    private static final class Steps {
        // A FACT and the word that joins it take seven bytes and more, a not three and more.
        static final int MAX_STEPS = MAX_TEXT / 3;

        final int[] kinds = new int[MAX_STEPS];
        final int[] signs = new int[MAX_STEPS];
        final int[] places = new int[MAX_STEPS];
        final int[] bounds = new int[MAX_STEPS];
        final long[] froms = new long[MAX_STEPS];
        int size = 0;

        void join(int kind) {
            put(kind, 0, 0, 0, 0);
        }

        void put(int kind, int sign, int place, int bound, long from) {
            if (size < MAX_STEPS) {
                kinds[size] = kind;
                signs[size] = sign;
                places[size] = place;
                bounds[size] = bound;
                froms[size] = from;
                size++;
            }
        }
    }

    /**
     * Reads a TEXT from TOKEN to TOKEN into a STORE of its own, so that a FAULT leaves the old one.
     * What reads a piece answers its FAULT, or 0, and stays at the TOKEN that is at fault; what reads
     * a number answers the FAULT below 0.
     */
    private static final class Reader {
        // Signs are their own kinds, so these four are none of them.
        private static final int END = 0;
        private static final int STRANGE = 1;
        private static final int WORD = 'a';
        private static final int DIGITS = '0';

        private static final String SIGNS = "<=>[];";

        private static final int MISPLACED = 2;
        private static final int MISSHAPEN = 3;
        private static final int IMPOSSIBLE = 4;
        private static final int TWICE = 5;
        private static final int BEYOND = 6;

        private static final int MAX_DIGITS = 48;
        private static final int MAX_NUMBER_DIGITS = 8;
        private static final int MAX_NUMBER = 99999999;
        private static final int MAX_WRAPS = 6;

        private final Steps steps = new Steps();
        final Tape tape = new Tape();
        final Store store = new Store();
        private final byte[] text = tape.bytes;
        private int length = 0;
        private int kind = END;
        private int start = 0;
        private int end = 0;

        int read(int size) {
            length = Math.min(size, text.length);
            store.clear();
            end = 0;
            next();
            int fault = isWord("bits") ? readBits() : FINE;
            store.halve();
            if (fault == FINE && isWord("parts")) {
                fault = readParts();
            }
            for (int line = 0; line <= MAX_TEXT && fault == FINE && kind != END; line++) {
                if (isWord("code")) {
                    fault = readCode();
                } else {
                    fault = isWord("filter") ? readFilter() : MISPLACED;
                }
            }
            return fault != FINE && kind == STRANGE ? STRANGE : fault;
        }

        int place() {
            return start;
        }

        private void next() {
            int at = end;
            while (at < length && (text[at] == ' ' || text[at] == '\n')) {
                at++;
            }
            start = at;
            end = at;
            kind = END;
            if (at < length) {
                int sign = text[at] & 255;
                boolean letter = sign >= 'a' && sign <= 'z';
                boolean digit = sign >= '0' && sign <= '9';
                int low = letter ? 'a' : '0';
                int high = letter ? 'z' : '9';
                end = at + 1;
                while ((letter || digit) && end < length && text[end] >= low && text[end] <= high) {
                    end++;
                }
                boolean strange = digit ? end - at > MAX_DIGITS : !letter && SIGNS.indexOf((char) sign) < 0;
                kind = strange ? STRANGE : letter ? WORD : digit ? DIGITS : sign;
            }
        }

        private boolean isWord(String word) {
            if (kind != WORD || end - start != word.length()) {
                return false;
            }
            for (int i = 0; i < word.length(); i++) {
                if (text[start + i] != word.charAt(i)) {
                    return false;
                }
            }
            return true;
        }

        private int sign(int wanted) {
            if (kind != wanted) {
                return MISPLACED;
            }
            next();
            return FINE;
        }

        private int number(int least, int most) {
            if (kind != DIGITS) {
                return -MISPLACED;
            }
            if (end - start > MAX_NUMBER_DIGITS) {
                return -MISSHAPEN;
            }
            int value = 0;
            for (int i = start; i < end; i++) {
                value = value * 10 + text[i] - '0';
            }
            return value < least || value > most ? -IMPOSSIBLE : value;
        }

        private long binary() {
            if (kind != DIGITS) {
                return -MISPLACED;
            }
            if (end - start != store.bits) {
                return -MISSHAPEN;
            }
            long value = 0;
            for (int i = start; i < end; i++) {
                if (text[i] > '1') {
                    return -MISSHAPEN;
                }
                value = value << 1 | text[i] - '0';
            }
            return value;
        }

        private int readBits() {
            next();
            int bits = number(MIN_BITS, MAX_BITS);
            if (bits < 0) {
                return -bits;
            }
            store.bits = bits;
            next();
            return sign(';');
        }

        private int readParts() {
            next();
            int left = store.bits;
            int parts = 0;
            // A seventh can't be, whatever it is: number() refuses it, and the loop ends.
            while (parts == 0 || parts <= MAX_PARTS && kind == DIGITS) {
                int breadth = number(1, parts < MAX_PARTS ? Math.min(left, MAX_BREADTH) : 0);
                if (breadth < 0) {
                    return -breadth;
                }
                store.breadths[parts] = breadth;
                parts++;
                left -= breadth;
                next();
            }
            store.parts = parts;
            if (kind == ';' && left > 0) {
                return IMPOSSIBLE;
            }
            return sign(';');
        }

        private int readCode() {
            if (store.size >= MAX_CODES) {
                return BEYOND;
            }
            next();
            long code = binary();
            if (code < 0) {
                return (int) -code;
            }
            if (store.whereIs(code) != NONE) {
                return TWICE;
            }
            next();
            int tag = 0;
            if (isWord("tag")) {
                next();
                tag = number(0, MAX_TAG);
                if (tag < 0) {
                    return -tag;
                }
                next();
            }
            store.append(code, tag);
            return sign(';');
        }

        private int readFilter() {
            if (store.filter != null) {
                return TWICE;
            }
            steps.size = 0;
            next();
            int fault = readTest(0);
            if (fault != FINE) {
                return fault;
            }
            store.filter = new Filter(steps);
            return sign(';');
        }

        private int readTest(int wraps) {
            int fault = readSide(wraps);
            for (int i = 0; i < MAX_TEXT && fault == FINE && isWord("or"); i++) {
                next();
                fault = readSide(wraps);
                steps.join(Filter.OR);
            }
            return fault;
        }

        private int readSide(int wraps) {
            int fault = readFact(wraps);
            for (int i = 0; i < MAX_TEXT && fault == FINE && isWord("and"); i++) {
                next();
                fault = readFact(wraps);
                steps.join(Filter.AND);
            }
            return fault;
        }

        private int readFact(int wraps) {
            boolean not = isWord("not");
            if (!not && kind != '[') {
                return readComparison(valueKind());
            }
            if (wraps >= MAX_WRAPS) {
                return BEYOND;
            }
            next();
            if (not) {
                int fault = readFact(wraps + 1);
                steps.join(Filter.NOT);
                return fault;
            }
            int fault = readTest(wraps + 1);
            return fault == FINE ? sign(']') : fault;
        }

        private int readComparison(int value) {
            if (value == NONE) {
                return MISPLACED;
            }
            next();
            int place = 0;
            if (value == Filter.BIT || value == Filter.KEY) {
                place = number(0, (value == Filter.BIT ? store.bits : store.parts) - 1);
                if (place < 0) {
                    return -place;
                }
                next();
            }
            long from = 0;
            if (value == Filter.FAR) {
                from = binary();
                if (from < 0) {
                    return (int) -from;
                }
                next();
            }
            int sign = kind;
            if (sign != '<' && sign != '=' && sign != '>') {
                return MISPLACED;
            }
            next();
            int bound = number(0, MAX_NUMBER);
            if (bound < 0) {
                return -bound;
            }
            next();
            steps.put(value, sign, place, bound, from);
            return FINE;
        }

        private int valueKind() {
            if (isWord("ones")) {
                return Filter.ONES;
            }
            if (isWord("tag")) {
                return Filter.TAG;
            }
            if (isWord("number")) {
                return Filter.NUMBER;
            }
            if (isWord("bit")) {
                return Filter.BIT;
            }
            if (isWord("key")) {
                return Filter.KEY;
            }
            return isWord("far") ? Filter.FAR : NONE;
        }
    }

    /** STORES as they were: a ring of those ahead of the latest ACTS, and a pile of those at MARKS. */
    private static final class History {
        private final Store[] acts = new Store[MAX_ACTS];
        private final Store[] marks = new Store[MAX_MARKS];
        private int first = 0;
        int kept = 0;
        int marked = 0;

        History() {
            for (int i = 0; i < MAX_ACTS; i++) {
                acts[i] = new Store();
            }
            for (int i = 0; i < MAX_MARKS; i++) {
                marks[i] = new Store();
            }
        }

        void keep(Store now) {
            acts[(first + kept) % MAX_ACTS].become(now);
            if (kept < MAX_ACTS) {
                kept++;
            } else {
                first = (first + 1) % MAX_ACTS;
            }
        }

        void takeBackAct(Store now) {
            if (kept > 0) {
                kept--;
                now.become(acts[(first + kept) % MAX_ACTS]);
            }
        }

        void putMark(Store now) {
            if (marked < MAX_MARKS) {
                marks[marked].become(now);
                marked++;
            }
        }

        void takeBackMark(Store now) {
            if (marked > 0) {
                marked--;
                now.become(marks[marked]);
                kept = 0;
            }
        }
    }

    /** BUDGETS of the least COST. A PART's share is its budget and 1: shares together are the RADIUS and 1. */
    private static final class Budgets {
        // More than all PARTS can cost, and so far below the greatest int that it can be added to.
        private static final int NEVER = 1000000;

        private final int[] breadths = new int[MAX_PARTS];
        private int parts = 1;
        final int[][] costs = new int[MAX_PARTS][MAX_BREADTH + 2];
        // least[p][s]: the least COST of PART p and those behind it, with shares that are s together.
        private final int[][] least = new int[MAX_PARTS][MAX_BITS + 2];
        final int[] chosen = new int[MAX_PARTS];

        void partLike(Store store) {
            parts = store.parts;
            System.arraycopy(store.breadths, 0, breadths, 0, MAX_PARTS);
        }

        void partInTwo(int lower, int upper) {
            parts = 2;
            breadths[0] = lower;
            breadths[1] = upper;
        }

        int plan(long[] codes, int set, long number, int radius) {
            weigh(codes, set, number);
            tabulate(radius);
            return choose(radius);
        }

        void weigh(long[] codes, int set, long number) {
            int start = 0;
            for (int part = 0; part < parts; part++) {
                long mask = (1L << breadths[part]) - 1 << start;
                int[] row = costs[part];
                Arrays.fill(row, 0);
                for (int i = 0; i < codes.length; i++) {
                    if (isIn(set, i)) {
                        row[Long.bitCount((codes[i] ^ number) & mask) + 1]++;
                    }
                }
                for (int share = 1; share < row.length; share++) {
                    row[share] += row[share - 1];
                }
                start += breadths[part];
            }
        }

        void tabulate(int mostRadius) {
            int last = parts - 1;
            for (int sum = 0; sum <= mostRadius + 1; sum++) {
                least[last][sum] = sum <= breadths[last] + 1 ? costs[last][sum] : NEVER;
            }
            for (int part = last - 1; part > 0; part--) {
                for (int sum = 0; sum <= mostRadius + 1; sum++) {
                    least[part][sum] = costWith(part, cheapestShare(part, sum), sum);
                }
            }
        }

        int choose(int radius) {
            int left = radius + 1;
            int cost = 0;
            for (int part = 0; part + 1 < parts; part++) {
                int share = cheapestShare(part, left);
                chosen[part] = share - 1;
                cost += costs[part][share];
                left -= share;
            }
            chosen[parts - 1] = left - 1;
            return cost + least[parts - 1][left];
        }

        private int cheapestShare(int part, int sum) {
            int best = 0;
            int leastCost = costWith(part, 0, sum);
            for (int share = 1; share <= Math.min(sum, breadths[part] + 1); share++) {
                int cost = costWith(part, share, sum);
                if (cost < leastCost) {
                    leastCost = cost;
                    best = share;
                }
            }
            return best;
        }

        private int costWith(int part, int share, int sum) {
            return costs[part][share] + least[part + 1][sum - share];
        }

        int candidates(long[] codes, int set, long number) {
            int found = 0;
            int start = 0;
            for (int part = 0; part < parts; part++) {
                long mask = (1L << breadths[part]) - 1 << start;
                for (int i = 0; i < codes.length; i++) {
                    if (isIn(set, i) && Long.bitCount((codes[i] ^ number) & mask) <= chosen[part]) {
                        found |= 1 << i;
                    }
                }
                start += breadths[part];
            }
            return found;
        }
    }

    /** CODES as they are RANKED by a number. */
    private static final class Ranking {
        final int[] order = new int[MAX_CODES];
        private final int[] fars = new int[MAX_CODES];
        private final int[] gaps = new int[MAX_CODES];
        int size = 0;

        void rank(long[] codes, int set, long number) {
            size = 0;
            for (int i = 0; i < MAX_CODES; i++) {
                if (isIn(set, i)) {
                    insert(i, unlike(codes[i], number));
                }
            }
        }

        private void insert(int code, int far) {
            int at = size;
            while (at > 0 && fars[at - 1] > far) {
                order[at] = order[at - 1];
                fars[at] = fars[at - 1];
                at--;
            }
            order[at] = code;
            fars[at] = far;
            size++;
        }

        /** The one taken behind so many others; its gap is 0 once it is taken, so none is taken twice. */
        int takenApart(long[] codes, int others) {
            Arrays.fill(gaps, MAX_BITS + 1);
            int taken = 0;
            for (int i = 0; i < others; i++) {
                int widest = 0;
                for (int j = 0; j < size; j++) {
                    gaps[j] = Math.min(gaps[j], unlike(codes[order[j]], codes[order[taken]]));
                    widest = gaps[j] > gaps[widest] ? j : widest;
                }
                taken = widest;
            }
            return order[taken];
        }
    }
}

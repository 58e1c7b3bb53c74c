/** A STORE of 32 CODES, where a SET fills all bits of an int, and a STORE of none: each call that there is. */
public final class FullTest {
    private static final Check check = new Check();
    // How many numbers of 5 bits are no more FAR from one of them than 0, 1, ..
    private static final int[] BALL = {1, 6, 16, 26, 31, 32};

    public static void main(String[] args) {
        fullThereIs();
        fullActs();
        fullNear();
        fullRanked();
        fullGrown();
        fullApart();
        fullPairs();
        fullClusters();
        fullSets();
        fullParts();
        star();
        starOfHighBits();
        none();
        noneCounts();
        noneUndone();
        one();
        check.end("FullTest");
    }

    /** The CODES 0 to 31, of 16 BITS, PARTS of 8: all that is unlike is in the five lowest bits. */
    private static AlikeStore full() {
        AlikeStore x = new AlikeStore();
        for (int i = 0; i < 32; i++) {
            x.add(i);
        }
        return x;
    }

    private static void fullThereIs() {
        AlikeStore x = full();
        int[] many = {16, 2, 32, 32, -1, 12, 0, 0};
        for (int what = 0; what < 8; what++) {
            check.fine("many " + what, x, x.many(what), many[what]);
        }
        for (int code = 0; code < 32; code++) {
            check.fine("code", x, x.code(code), code);
            check.fine("tag of " + code, x, x.tagOf(code), 0);
            check.fine("find", x, x.find(code), code);
            check.fine("key below", x, x.key(code, 0), code);
            check.fine("key above", x, x.key(code, 1), 0);
            check.fine("far", x, x.far(code, 31), 5 - Integer.bitCount(code));
        }
        int[] measures = {5, 1, 5, 5};
        for (int measure = 0; measure < 4; measure++) {
            check.fine("measure " + measure, x, x.measure(31, 0, measure), measures[measure]);
        }
        check.refused("code 32", x, x.code(32), 2);
    }

    private static void fullActs() {
        AlikeStore x = full();
        check.refused("a 33rd", x, x.add(32), 3);
        check.fine("the last is tagged", x, x.tag(31, 9), 0);
        check.fine("its TAG", x, x.tagOf(31), 9);
        for (int bit = 0; bit < 5; bit++) {
            check.refused("each is there", x, x.flip(31, bit), 4);
        }
        check.fine("but this one", x, x.flip(31, 15), 1);
        check.fine("far above", x, x.code(31), 32768 + 31);
        check.fine("and back", x, x.flip(31, 15), 0);
        check.fine("half of them are others", x, x.swap(0, 15), 16);
        check.fine("odd ones", x, x.code(31), 32768 + 30);
        check.fine("even ones stay", x, x.code(30), 30);
        check.fine("back", x, x.swap(0, 15), 16);
        check.fine("strike the last", x, x.strike(31), 31);
        check.fine("all but the highest bit", x, x.many(4), Integer.MAX_VALUE);
        check.fine("a 32nd again", x, x.add(31), 31);
        check.fine("its TAG is 0", x, x.tagOf(31), 0);
        check.fine("strike the first", x, x.strike(0), 31);
        for (int code = 0; code < 31; code++) {
            check.fine("numbered less", x, x.code(code), code + 1);
        }
        check.fine("undone", x, x.undo(), 11);
        check.fine("all again", x, x.many(4), -1);
        check.fine("the last again", x, x.code(31), 31);
        AlikeStore odd = new AlikeStore();
        for (int i = 0; i < 32; i++) {
            odd.add(2 * i + 1);
        }
        check.fine("all of them are others", odd, odd.swap(15, 0), 32);
        check.fine("the last too", odd, odd.code(31), 32768 + 62);
    }

    /** COST by each RADIUS, told by hand: from 5 on PART 1 (all are alike there) costs no more than PART 0. */
    private static void fullNear() {
        AlikeStore x = full();
        int[] costs = {1, 6, 16, 26, 31, 32, 32, 32, 32, 33, 38, 48, 58, 63, 64, 64, 64};
        int[] lower = {0, 1, 2, 3, 4, -1, -1, -1, -1, 0, 1, 2, 3, 4, 5, 6, 7};
        int[] upper = {-1, -1, -1, -1, -1, 5, 6, 7, 8, 8, 8, 8, 8, 8, 8, 8, 8};
        for (int radius = 0; radius <= 16; radius++) {
            check.fine("cost by " + radius, x, x.near(31, radius, 0), costs[radius]);
            check.fine("budget 0 by " + radius, x, x.budget(31, radius, 0), lower[radius]);
            check.fine("budget 1 by " + radius, x, x.budget(31, radius, 1), upper[radius]);
            int near = BALL[Math.min(radius, 5)];
            check.fine("candidates by " + radius, x, x.near(31, radius, 1), near);
            check.fine("how many near by " + radius, x, x.near(31, radius, 2), near);
            int set = 0;
            for (int i = 0; i < 32; i++) {
                set |= Integer.bitCount(i ^ 31) <= radius ? 1 << i : 0;
            }
            check.fine("set of candidates by " + radius, x, x.near(31, radius, 3), set);
            check.fine("set of near ones by " + radius, x, x.near(31, radius, 4), set);
        }
        check.fine("the last alone", x, x.near(31, 0, 4), Integer.MIN_VALUE);
        for (int budget = -1; budget <= 8; budget++) {
            check.fine("cost below", x, x.cost(31, 0, budget), budget < 0 ? 0 : BALL[Math.min(budget, 5)]);
            check.fine("cost above", x, x.cost(31, 1, budget), budget < 0 ? 0 : 32);
            check.fine("cost for others above", x, x.cost(65535, 1, budget), budget < 8 ? 0 : 32);
        }
    }

    private static void fullRanked() {
        AlikeStore x = full();
        check.fine("the first", x, x.ranked(31, 0), 31);
        check.fine("of alike ones the least", x, x.ranked(31, 1), 15);
        check.fine("the next of them", x, x.ranked(31, 2), 23);
        check.fine("the last", x, x.ranked(31, 31), 0);
        check.fine("the last of others", x, x.ranked(0, 31), 31);
        check.refused("no 33rd", x, x.ranked(31, 32), 5);
    }

    private static void fullGrown() {
        AlikeStore x = full();
        int[] spent = {1, 7, 23, 49, 80, 112};
        int radius = 0;
        for (int k = 1; k <= 32; k++) {
            radius = k > BALL[radius] ? radius + 1 : radius;
            check.fine("grown to " + k, x, x.grown(31, k, 0), radius);
            check.fine("spent to " + k, x, x.grown(31, k, 1), spent[radius]);
        }
        check.refused("to 33", x, x.grown(31, 33, 0), 6);
        check.fine("to one, as far as can be", x, x.grown(65535, 1, 0), 11);
        check.fine("to all, as far as can be", x, x.grown(65535, 32, 0), 16);
    }

    private static void fullApart() {
        AlikeStore x = full();
        int[] first = {31, 0, 7, 11, 13};
        for (int i = 0; i < first.length; i++) {
            check.fine("apart " + i, x, x.apart(31, 16, 32, i), first[i]);
        }
        int taken = 0;
        for (int i = 0; i < 32; i++) {
            taken |= 1 << x.apart(31, 16, 32, i);
        }
        check.due("each once", taken, -1);
        check.refused("no 33rd", x, x.apart(31, 16, 32, 32), 5);
        check.fine("one of one", x, x.apart(31, 0, 32, 0), 31);
        check.refused("two of one", x, x.apart(31, 0, 32, 1), 5);
    }

    private static void fullPairs() {
        AlikeStore x = full();
        int[] pairs = {0, 80, 240, 400, 480, 496};
        int[] joined = {0, 80, 240, 400, 480, 496, 496, 496, 496, 496, 576, 736, 896, 976, 992, 992, 992};
        for (int radius = 0; radius <= 16; radius++) {
            check.fine("pairs by " + radius, x, x.pairs(radius), pairs[Math.min(radius, 5)]);
            check.fine("joined by " + radius, x, x.joined(radius), joined[radius]);
        }
        int[] first = {0, 1, 1};
        int[] last = {30, 31, 1};
        for (int what = 0; what < 3; what++) {
            check.fine("the first pair", x, x.pair(16, 0, what), first[what]);
            check.fine("the last pair", x, x.pair(16, 495, what), last[what]);
            check.fine("the last near pair", x, x.pair(1, 79, what), last[what]);
            check.refused("no more pairs", x, x.pair(16, 496, what), 5);
            check.refused("no more near pairs", x, x.pair(1, 80, what), 5);
            check.fine("the closest", x, x.closest(what), first[what]);
        }
        check.fine("all of the first ahead", x, x.pair(16, 30, 1), 31);
        check.fine("then the second", x, x.pair(16, 31, 0), 1);
    }

    private static void fullClusters() {
        AlikeStore x = full();
        int[][] due = {{32, 1, 0}, {1, 32, 0}};
        for (int radius = 0; radius < 2; radius++) {
            for (int what = 0; what < 3; what++) {
                check.fine("clusters", x, x.clusters(radius, what), due[radius][what]);
            }
        }
        int[][] last = {{31, 1, 31}, {0, 32, 0}};
        for (int radius = 0; radius < 2; radius++) {
            for (int what = 0; what < 3; what++) {
                check.fine("cluster of the last", x, x.cluster(31, radius, what), last[radius][what]);
            }
        }
    }

    private static void fullSets() {
        AlikeStore x = full();
        check.fine("as many with 1 as with 0", x, x.vote(-1), 0);
        check.fine("all but the first", x, x.vote(-2), 31);
        check.fine("all but the last", x, x.vote(Integer.MAX_VALUE), 0);
        check.fine("the last", x, x.vote(Integer.MIN_VALUE), 31);
        check.fine("like all", x, x.like(0, 65535), -1);
        check.fine("like all, by bits that none has", x, x.like(65535 - 31, 31), -1);
        check.fine("like the last", x, x.like(65535, 31), Integer.MIN_VALUE);
        check.fine("like none", x, x.like(32, 32), 0);
        check.fine("like the odd ones", x, x.like(1, 65535), 0xaaaaaaaa);
        for (int bit = 0; bit < 16; bit++) {
            check.fine("ones of " + bit, x, x.ones(bit), bit < 5 ? 16 : 0);
            check.fine("alike to the last", x, x.alike(15, bit), bit < 5 ? 16 : 32);
            check.fine("alike to the first", x, x.alike(bit, 0), bit == 0 ? 32 : 16);
        }
        check.fine("telling", x, x.telling(), 0);
    }

    private static void fullParts() {
        AlikeStore x = full();
        check.fine("all unlike", x, x.spread(0, 0), 32);
        check.fine("one of each", x, x.spread(0, 1), 1);
        check.fine("all alike", x, x.spread(1, 0), 1);
        check.fine("all of one", x, x.spread(1, 1), 32);
        int[] exact = {64, 128, 128, 64, 32};
        for (int lower = 1; lower <= 15; lower++) {
            check.fine("parted by " + lower, x, x.parted(lower, 0), exact[Math.min(lower, 5) - 1]);
        }
        check.fine("the least of those that cost the least", x, x.bestPart(0), 5);
        int[] costs = {1, 6, 16, 26, 31, 32, 32, 32, 32, 33, 38, 48, 58, 63, 64, 64, 64};
        for (int radius = 0; radius <= 16; radius++) {
            check.fine("parted in halves", x, x.parted(8, radius), 32 * costs[radius]);
        }
    }

    /** 31 CODES of one bit each, the last of none: all come to one another by the last. */
    private static AlikeStore star(int lowest) {
        AlikeStore x = Check.loaded("bits 48;");
        for (int i = 0; i < 31; i++) {
            x.add(1L << lowest + i);
        }
        x.add(0);
        return x;
    }

    private static void star() {
        AlikeStore x = star(0);
        int[] clusters = {1, 32, 0};
        int[] cluster = {0, 32, 31};
        int[] closest = {0, 31, 1};
        int[] last = {30, 31, 1};
        for (int what = 0; what < 3; what++) {
            check.fine("clusters", x, x.clusters(1, what), clusters[what]);
            check.fine("cluster of the first", x, x.cluster(0, 1, what), cluster[what]);
            check.fine("cluster of the last", x, x.cluster(31, 1, what), cluster[what]);
            check.fine("closest", x, x.closest(what), closest[what]);
            check.fine("the first pair", x, x.pair(1, 0, what), closest[what]);
            check.fine("the last pair", x, x.pair(1, 30, what), last[what]);
        }
        check.fine("pairs by 1", x, x.pairs(1), 31);
        check.fine("pairs by 2", x, x.pairs(2), 496);
        check.fine("clusters by 0", x, x.clusters(0, 0), 32);
        check.fine("ranked first", x, x.ranked(0, 0), 31);
        check.fine("ranked second", x, x.ranked(0, 1), 0);
        check.fine("apart first", x, x.apart(0, 48, 32, 0), 31);
        for (int i = 1; i < 32; i++) {
            check.fine("of alike ones the first ranked", x, x.apart(0, 48, 32, i), i - 1);
        }
        check.fine("keys below", x, x.spread(0, 0), 25);
        check.fine("those with none below", x, x.spread(0, 1), 8);
        check.fine("keys above", x, x.spread(1, 0), 8);
        check.fine("those with none above", x, x.spread(1, 1), 25);
        check.fine("no bit has more", x, x.vote(-1), 0);
        check.fine("telling", x, x.telling(), 0);
    }

    private static void starOfHighBits() {
        AlikeStore x = star(17);
        check.fine("the highest bit", x, x.code(30), 1L << 47);
        check.fine("ones there", x, x.ones(47), 1);
        check.fine("none below", x, x.ones(16), 0);
        check.fine("the first bit that parts", x, x.telling(), 17);
        check.fine("like the highest", x, x.like(1L << 47, 1L << 47), 1 << 30);
        check.fine("all within 1 of 0", x, x.near(0, 1, 4), -1);
        check.fine("all are candidates", x, x.near(0, 1, 3), -1);
        check.fine("cost of 0 by 0: those with none above", x, x.near(0, 0, 0), 8);
        check.fine("far from all ones", x, x.far(31, (1L << 48) - 1), 48);
        check.fine("cluster of the highest", x, x.cluster(30, 1, 2), 31);
    }

    private static void none() {
        AlikeStore x = new AlikeStore();
        for (int radius : new int[] {0, 1, 15, 16}) {
            for (int what = 0; what < 5; what++) {
                check.fine("near", x, x.near(65535, radius, what), 0);
            }
            check.fine("pairs", x, x.pairs(radius), 0);
            check.refused("pair", x, x.pair(radius, 0, 0), 5);
            check.fine("joined", x, x.joined(radius), 0);
            check.fine("clusters", x, x.clusters(radius, 0), 0);
            check.fine("the most", x, x.clusters(radius, 1), 0);
            check.refused("which", x, x.clusters(radius, 2), 5);
            check.refused("cluster", x, x.cluster(0, radius, 0), 2);
            check.refused("apart", x, x.apart(0, radius, 1, 0), 5);
            check.fine("parted", x, x.parted(8, radius), 0);
            check.fine("of several the least", x, x.bestPart(radius), 1);
        }
        check.fine("the least budget of PART 0", x, x.budget(0, 0, 0), -1);
        check.fine("the other", x, x.budget(0, 0, 1), 0);
        check.fine("by 8", x, x.budget(0, 8, 0), -1);
        check.fine("by 9", x, x.budget(0, 9, 0), 0);
        check.fine("by 16", x, x.budget(0, 16, 0), 7);
        check.fine("the other by 16", x, x.budget(0, 16, 1), 8);
        check.fine("cost", x, x.cost(0, 0, 8), 0);
        check.refused("ranked", x, x.ranked(0, 0), 5);
        check.refused("grown", x, x.grown(0, 1, 0), 6);
        check.refused("closest", x, x.closest(0), 5);
        check.fine("vote", x, x.vote(0), 0);
        check.refused("vote of none", x, x.vote(1), 1);
        check.fine("like", x, x.like(0, 0), 0);
        check.fine("ones", x, x.ones(15), 0);
        check.fine("telling", x, x.telling(), 0);
        check.fine("alike", x, x.alike(0, 15), 0);
        check.fine("spread", x, x.spread(1, 0), 0);
        check.fine("most alike", x, x.spread(1, 1), 0);
        check.refused("find", x, x.find(0), 5);
        check.fine("swap", x, x.swap(0, 15), 0);
        check.refused("strike", x, x.strike(0), 2);
        check.refused("flip", x, x.flip(0, 0), 2);
        check.refused("tag", x, x.tag(0, 0), 2);
    }

    /** CODES, but none that COUNT. */
    private static void noneCounts() {
        AlikeStore x = Check.loaded("bits 8;code 00000000;code 11111111;code 00001111;filter ones > 8;");
        check.fine("how many", x, x.many(2), 3);
        check.fine("how many count", x, x.many(3), 0);
        check.fine("as a SET", x, x.many(4), 0);
        for (int radius : new int[] {0, 8}) {
            for (int what = 0; what < 5; what++) {
                check.fine("near", x, x.near(0, radius, what), 0);
            }
            check.fine("pairs", x, x.pairs(radius), 0);
            check.fine("joined", x, x.joined(radius), 0);
            check.fine("clusters", x, x.clusters(radius, 0), 0);
            check.fine("the most", x, x.clusters(radius, 1), 0);
            check.fine("parted", x, x.parted(4, radius), 0);
            check.fine("bestPart", x, x.bestPart(radius), 1);
        }
        check.fine("cost", x, x.cost(0, 0, 4), 0);
        check.fine("like", x, x.like(0, 0), 0);
        check.fine("ones", x, x.ones(0), 0);
        check.fine("telling", x, x.telling(), 0);
        check.fine("alike", x, x.alike(0, 0), 0);
        check.fine("spread", x, x.spread(0, 0), 0);
        check.fine("most alike", x, x.spread(0, 1), 0);
        check.fine("votes are of all", x, x.vote(7), 15);
        check.fine("found all the same", x, x.find(255), 1);
        check.fine("measured all the same", x, x.measure(0, 2, 3), 4);
        check.fine("swapped all the same", x, x.swap(0, 7), 1);
        check.fine("struck all the same", x, x.strike(1), 2);
        check.fine("tagged all the same", x, x.tag(0, 9), 0);
    }

    private static void noneUndone() {
        AlikeStore x = full();
        for (int left = 31; left >= 0; left--) {
            check.fine("strike", x, x.strike(left % 2 == 0 ? 0 : left), left);
        }
        check.fine("none", x, x.many(4), 0);
        check.refused("none to strike", x, x.strike(0), 2);
        check.fine("as new", x, x.add(0), 0);
        for (int left = 11; left >= 0; left--) {
            check.fine("undo", x, x.undo(), left);
        }
        check.refused("no more", x, x.undo(), 5);
        check.fine("eleven are there", x, x.many(2), 11);
    }

    /** One CODE alone. */
    private static void one() {
        AlikeStore x = Check.loaded("bits 4;code 1001 tag 9;");
        check.fine("ranked", x, x.ranked(6, 0), 0);
        check.refused("ranked 1", x, x.ranked(6, 1), 5);
        check.fine("grown as far as can be", x, x.grown(6, 1, 0), 4);
        check.fine("apart", x, x.apart(6, 4, 32, 0), 0);
        check.refused("not near", x, x.apart(6, 3, 32, 0), 5);
        check.fine("pairs", x, x.pairs(4), 0);
        check.refused("closest", x, x.closest(0), 5);
        check.fine("clusters", x, x.clusters(0, 0), 1);
        check.fine("the most", x, x.clusters(0, 1), 1);
        check.fine("which", x, x.clusters(0, 2), 0);
        check.fine("its least", x, x.cluster(0, 4, 0), 0);
        check.fine("its size", x, x.cluster(0, 4, 1), 1);
        check.fine("its middle", x, x.cluster(0, 4, 2), 0);
        check.fine("vote", x, x.vote(1), 9);
        check.fine("telling", x, x.telling(), 0);
        check.fine("spread", x, x.spread(1, 0), 1);
        check.fine("joined", x, x.joined(4), 0);
        check.fine("parted", x, x.parted(1, 4), 2);
        check.fine("bestPart", x, x.bestPart(0), 1);
    }
}

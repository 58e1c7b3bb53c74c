/** Promises 31 to 44: among themselves. */
public final class AmongTest {
    private static final Check check = new Check();
    private static final String FOUR = "bits 8;parts 3 5;code 00000000;code 00000111 tag 2;code 11111111;"
            + "code 10000001 tag 2;";
    private static final String SQUARE = "bits 4;code 0000;code 0011;code 1100;code 1111;";

    public static void main(String[] args) {
        pairs();
        joined();
        closest();
        clusters();
        cluster();
        vote();
        like();
        onesAndTelling();
        alike();
        spread();
        parted();
        bestPart();
        check.end("AmongTest");
    }

    private static void badRadius(AlikeStore x, int radius) {
        String what = "radius " + radius;
        check.refused(what + " of pairs", x, x.pairs(radius), 1);
        check.refused(what + " of pair", x, x.pair(radius, 0, 0), 1);
        check.refused(what + " of joined", x, x.joined(radius), 1);
        check.refused(what + " of clusters", x, x.clusters(radius, 0), 1);
        check.refused(what + " of cluster", x, x.cluster(0, radius, 0), 1);
        check.refused(what + " of parted", x, x.parted(4, radius), 1);
        check.refused(what + " of bestPart", x, x.bestPart(radius), 1);
    }

    /** Promises 31 and 32. */
    private static void pairs() {
        AlikeStore x = Check.loaded(FOUR);
        badRadius(x, -1);
        badRadius(x, 9);
        int[] many = {0, 0, 1, 3, 3, 4, 5, 5, 6};
        for (int radius = 0; radius <= 8; radius++) {
            check.fine("pairs by " + radius, x, x.pairs(radius), many[radius]);
        }
        int[][] due = {{0, 1, 3}, {0, 2, 8}, {0, 3, 2}, {1, 2, 5}, {1, 3, 3}, {2, 3, 6}};
        for (int i = 0; i < 6; i++) {
            for (int what = 0; what < 3; what++) {
                check.fine("pair " + i + " " + what, x, x.pair(8, i, what), due[i][what]);
            }
        }
        check.fine("pair 2 by 3", x, x.pair(3, 2, 0), 1);
        check.refused("pair 3 by 3", x, x.pair(3, 3, 0), 5);
        check.refused("pair -1", x, x.pair(3, -1, 0), 1);
        check.refused("what 3", x, x.pair(3, 0, 3), 1);
        check.refused("what -1", x, x.pair(3, 0, -1), 1);
        AlikeStore y = Check.loaded(FOUR + "filter not number = 1;");
        check.fine("those that count", y, y.pairs(3), 1);
        check.fine("the other one", y, y.pair(3, 0, 1), 3);
    }

    /** Promise 33. */
    private static void joined() {
        AlikeStore x = Check.loaded(FOUR);
        check.fine("joined 0", x, x.joined(0), 0);
        check.fine("joined 3", x, x.joined(3), 3);
        check.fine("joined 8: 4, 3 and 2", x, x.joined(8), 9);
        AlikeStore y = Check.loaded(FOUR + "filter number < 1;");
        check.fine("one alone", y, y.joined(8), 0);
    }

    /** Promise 34. */
    private static void closest() {
        AlikeStore x = Check.loaded(FOUR);
        int[] due = {0, 3, 2};
        AlikeStore y = Check.loaded(SQUARE);
        int[] first = {0, 1, 2};
        AlikeStore z = Check.loaded(SQUARE + "filter number > 0;");
        int[] counting = {1, 3, 2};
        for (int what = 0; what < 3; what++) {
            check.fine("closest " + what, x, x.closest(what), due[what]);
            check.fine("the first as pairs go " + what, y, y.closest(what), first[what]);
            check.fine("those that count " + what, z, z.closest(what), counting[what]);
        }
        check.refused("what 3", x, x.closest(3), 1);
        check.refused("what -1", x, x.closest(-1), 1);
        AlikeStore one = Check.loaded(SQUARE + "filter number > 2;");
        check.refused("one counts", one, one.closest(0), 5);
        check.refused("1 is ahead of 5", one, one.closest(3), 1);
        AlikeStore none = new AlikeStore();
        check.refused("none", none, none.closest(0), 5);
    }

    private static void clustersAre(AlikeStore x, int radius, int... due) {
        for (int what = 0; what < 3; what++) {
            check.fine("clusters " + radius + " " + what, x, x.clusters(radius, what), due[what]);
        }
    }

    /** Promise 35. */
    private static void clusters() {
        AlikeStore x = Check.loaded(FOUR);
        clustersAre(x, 0, 4, 1, 0);
        clustersAre(x, 2, 3, 2, 0);
        clustersAre(x, 3, 2, 3, 0);
        clustersAre(x, 8, 1, 4, 0);
        AlikeStore y = Check.loaded("bits 4;code 1111;code 0000;code 0001;");
        clustersAre(y, 1, 2, 2, 1);
        AlikeStore none = Check.loaded(FOUR + "filter tag = 9;");
        check.fine("none count", none, none.clusters(3, 0), 0);
        check.fine("the most", none, none.clusters(3, 1), 0);
        check.refused("which", none, none.clusters(3, 2), 5);
        check.refused("what 3", x, x.clusters(3, 3), 1);
        check.refused("what -1", x, x.clusters(3, -1), 1);
    }

    private static void clusterIs(AlikeStore x, int code, int radius, int... due) {
        for (int what = 0; what < 3; what++) {
            check.fine("cluster " + code + " " + radius + " " + what, x, x.cluster(code, radius, what), due[what]);
        }
    }

    /** Promise 36. */
    private static void cluster() {
        AlikeStore x = Check.loaded(FOUR);
        clusterIs(x, 3, 3, 0, 3, 0);
        clusterIs(x, 2, 3, 2, 1, 2);
        AlikeStore chain = Check.loaded("bits 4;code 1111;code 0000;code 0001;code 0011;code 1010;code 0111 tag 3;");
        clusterIs(chain, 1, 1, 0, 5, 3);
        clusterIs(chain, 4, 1, 4, 1, 4);
        AlikeStore cut = Check.loaded("bits 4;code 0000;code 0001;code 0011 tag 1;code 0111;code 1111;filter tag = 0;");
        clusterIs(cut, 4, 1, 3, 2, 3);
        clusterIs(cut, 1, 1, 0, 2, 0);
        check.refused("it doesn't count", cut, cut.cluster(2, 1, 0), 6);
        check.refused("no code", cut, cut.cluster(5, 1, 0), 2);
        check.refused("code below 0", cut, cut.cluster(-1, 1, 0), 2);
        check.refused("what 3", cut, cut.cluster(0, 1, 3), 1);
        check.refused("what -1", cut, cut.cluster(0, 1, -1), 1);
        check.refused("1 is ahead of 2", cut, cut.cluster(9, 5, 0), 1);
    }

    /** Promise 37. */
    private static void vote() {
        AlikeStore x = Check.loaded(FOUR + "filter tag = 2;");
        check.fine("vote 15", x, x.vote(15), 1);
        check.fine("vote 6", x, x.vote(6), 7);
        check.fine("vote 14", x, x.vote(14), 135);
        check.fine("vote 4", x, x.vote(4), 255);
        check.fine("vote 0", x, x.vote(0), 0);
        check.refused("vote 16", x, x.vote(16), 1);
        check.refused("vote -1", x, x.vote(-1), 1);
        check.refused("vote of the highest", x, x.vote(Integer.MIN_VALUE), 1);
    }

    /** Promise 38. */
    private static void like() {
        AlikeStore x = Check.loaded(FOUR);
        check.fine("like 1 1", x, x.like(1, 1), 14);
        check.fine("like 1 0", x, x.like(1, 0), 1);
        check.fine("all open", x, x.like(0, 255), 15);
        check.fine("none open", x, x.like(255, 7), 2);
        check.fine("others open", x, x.like(128, 255), 12);
        check.fine("two bits", x, x.like(129, 1), 2);
        check.refused("mask", x, x.like(256, 0), 1);
        check.refused("mask below 0", x, x.like(-1, 0), 1);
        check.refused("number", x, x.like(0, 256), 1);
        check.refused("number below 0", x, x.like(0, -1), 1);
        AlikeStore y = Check.loaded(FOUR + "filter tag = 2;");
        check.fine("those that count", y, y.like(0, 0), 10);
    }

    /** Promises 39 and 40. */
    private static void onesAndTelling() {
        AlikeStore x = Check.loaded(FOUR);
        int[] due = {3, 2, 2, 1, 1, 1, 1, 2};
        for (int bit = 0; bit < 8; bit++) {
            check.fine("ones " + bit, x, x.ones(bit), due[bit]);
        }
        check.refused("bit 8", x, x.ones(8), 1);
        check.refused("bit -1", x, x.ones(-1), 1);
        check.fine("telling", x, x.telling(), 1);
        AlikeStore y = Check.loaded(FOUR + "filter tag = 2;");
        check.fine("ones of those that count", y, y.ones(0), 2);
        check.fine("telling of those", y, y.telling(), 1);
        AlikeStore z = Check.loaded("bits 4;code 1111;code 1011;code 1001;code 1100;code 0000;");
        check.fine("as near as can be", z, z.telling(), 0);
        check.fine("of no codes", z, new AlikeStore().telling(), 0);
        AlikeStore high = Check.loaded("bits 4;code 1111;code 1011;code 0011;code 0111;");
        check.fine("not the first bit", high, high.telling(), 2);
    }

    /** Promise 41. */
    private static void alike() {
        AlikeStore x = Check.loaded(FOUR);
        check.fine("alike 0 7", x, x.alike(0, 7), 3);
        check.fine("alike 1 7", x, x.alike(1, 7), 2);
        check.fine("alike 5 5", x, x.alike(5, 5), 4);
        check.refused("bit 8", x, x.alike(8, 0), 1);
        check.refused("other 8", x, x.alike(0, 8), 1);
        check.refused("bit -1", x, x.alike(-1, 0), 1);
        check.refused("other -1", x, x.alike(0, -1), 1);
        AlikeStore y = Check.loaded(FOUR + "filter tag = 2;");
        check.fine("those that count", y, y.alike(0, 7), 1);
    }

    /** Promise 42. */
    private static void spread() {
        AlikeStore x = Check.loaded(FOUR + "code 01111000;");
        check.fine("spread 0 0", x, x.spread(0, 0), 3);
        check.fine("spread 0 1", x, x.spread(0, 1), 2);
        check.fine("spread 1 0", x, x.spread(1, 0), 4);
        check.fine("spread 1 1", x, x.spread(1, 1), 2);
        check.refused("what 2", x, x.spread(0, 2), 1);
        check.refused("what -1", x, x.spread(0, -1), 1);
        check.refused("1 is ahead of 2", x, x.spread(2, 2), 1);
        check.refused("part 2", x, x.spread(2, 0), 2);
        check.refused("part -1", x, x.spread(-1, 0), 2);
        AlikeStore own = Check.loaded(SQUARE);
        check.fine("each its own", own, own.spread(0, 0), 2);
        own.strike(3);
        own.strike(2);
        check.fine("the first too", own, own.spread(0, 0), 2);
        AlikeStore none = new AlikeStore();
        check.fine("of none", none, none.spread(0, 0), 0);
        check.fine("most of none", none, none.spread(0, 1), 0);
        AlikeStore y = Check.loaded(FOUR + "filter tag = 2;");
        check.fine("those that count", y, y.spread(0, 0), 2);
    }

    /** Promise 43. */
    private static void parted() {
        AlikeStore x = Check.loaded(FOUR);
        check.fine("parted 4 0", x, x.parted(4, 0), 4);
        check.fine("parted 3 0", x, x.parted(3, 0), 5);
        check.fine("parted 1 0", x, x.parted(1, 0), 4);
        check.fine("parted 7 0", x, x.parted(7, 0), 4);
        check.refused("none is left", x, x.parted(8, 0), 6);
        check.refused("none at all", x, x.parted(24, 0), 6);
        check.refused("25", x, x.parted(25, 0), 1);
        check.refused("0", x, x.parted(0, 0), 1);
        check.refused("-1", x, x.parted(-1, 0), 1);
        AlikeStore wide = Check.loaded("bits 30;");
        check.refused("upper of 25", wide, wide.parted(5, 0), 6);
        check.fine("upper of 24", wide, wide.parted(6, 0), 0);
        check.fine("lower of 24", wide, wide.parted(24, 30), 0);
        check.fine("the parts stay", x, x.breadth(0), 3);
    }

    /** Promise 44. */
    private static void bestPart() {
        AlikeStore x = Check.loaded(FOUR);
        check.fine("best 0", x, x.bestPart(0), 1);
        AlikeStore wide = Check.loaded("bits 30;");
        check.fine("the least there can be", wide, wide.bestPart(30), 6);
        AlikeStore widest = Check.loaded("bits 48;");
        check.fine("the only one", widest, widest.bestPart(0), 24);
        AlikeStore y = Check.loaded("bits 4;code 0000;code 0001;code 0100;code 0101;");
        check.fine("parted 1", y, y.parted(1, 0), 8);
        check.fine("parted 2", y, y.parted(2, 0), 8);
        check.fine("parted 3", y, y.parted(3, 0), 4);
        check.fine("the last", y, y.bestPart(0), 3);
        AlikeStore z = Check.loaded("bits 4;code 0000;code 1001;code 1010;code 1011;");
        check.fine("parted 1", z, z.parted(1, 0), 6);
        check.fine("parted 2", z, z.parted(2, 0), 4);
        check.fine("parted 3", z, z.parted(3, 0), 4);
        check.fine("of several the least", z, z.bestPart(0), 2);
    }
}

/** Promises 25 to 44 at their edges; what a STORE of 32 CODES or of none answers is in FullTest. */
public final class EdgesOfSearchTest {
    private static final Check check = new Check();

    public static void main(String[] args) {
        budgetsTogether();
        budgetsWithinBreadths();
        budgetsOfSeveralTheLeast();
        budgetsOfOnePart();
        budgetsOfThoseThatCount();
        costFromNoneToAll();
        nearEdges();
        candidatesInEachPart();
        nearAreCandidates();
        rankedAlikeOnes();
        grownEdges();
        apartEdges();
        pairsByEachRadius();
        pairsAllToldOnce();
        joinedEdges();
        closestOfTwo();
        clustersByEachRadius();
        clustersOfSeveralTheLeast();
        clustersOfThoseThatCount();
        middleOfSeveralTheLeast();
        voteMoreThanHalf();
        likeOpenAndShut();
        onesAtTheEnds();
        tellingAsNearAsCanBe();
        alikeOfOneBit();
        spreadEdges();
        partedBreadths();
        partedWithinBreadths();
        partedByJustTheseTwo();
        bestPartOfEachBits();
        bestPartAtTheEnds();
        check.end("EdgesOfSearchTest");
    }

    private static AlikeStore numbers(String head, long... numbers) {
        AlikeStore x = Check.loaded(head);
        for (long number : numbers) {
            x.add(number);
        }
        return x;
    }

    private static AlikeStore sixParts() {
        return numbers("bits 48;parts 1 24 2 3 17 1;", 0, 1, 0x800000000000L, 0xffffffffffffL, 0x123456789abcL,
                0xfedcba987654L, 0x5555aaaa5555L);
    }

    // ---- Promises 25 to 27

    /** All BUDGETS and 1 together are the RADIUS and 1, each is -1 to its BREADTH, and they cost what COST says. */
    private static void budgetsTogether() {
        long[] froms = {0, 0xffffffffffffL, 0x123456789abdL};
        for (long from : froms) {
            for (int radius = 0; radius <= 48; radius += radius % 8 == 7 ? 1 : 7) {
                AlikeStore x = sixParts();
                int together = 0;
                int cost = 0;
                for (int part = 0; part < 6; part++) {
                    int budget = x.budget(from, radius, part);
                    check.due("STATUS of a budget", x.status(), 0);
                    check.due("-1 and above", budget >= -1 ? 1 : 0, 1);
                    check.due("its BREADTH at most", budget <= x.breadth(part) ? 1 : 0, 1);
                    together += budget + 1;
                    cost += x.cost(from, part, budget);
                }
                check.due("together by " + radius, together, radius + 1);
                check.fine("COST by " + radius, x, x.near(from, radius, 0), cost);
            }
        }
    }

    private static void budgetsAre(AlikeStore x, long from, int radius, int cost, int... due) {
        for (int part = 0; part < due.length; part++) {
            check.fine("budget of " + part + " by " + radius, x, x.budget(from, radius, part), due[part]);
        }
        check.refused("no more PARTS", x, x.budget(from, radius, due.length), 2);
        check.fine("COST by " + radius, x, x.near(from, radius, 0), cost);
    }

    /** By a RADIUS that is great, PARTS must be looked into, however much they cost. */
    private static void budgetsWithinBreadths() {
        AlikeStore x = numbers("bits 6;parts 1 1 4;", 0, 1, 2, 3);
        budgetsAre(x, 0, 0, 2, -1, 0, -1);
        budgetsAre(x, 0, 1, 4, -1, -1, 1);
        budgetsAre(x, 0, 4, 4, -1, -1, 4);
        budgetsAre(x, 0, 5, 6, -1, 0, 4);
        budgetsAre(x, 0, 6, 8, -1, 1, 4);
        AlikeStore y = numbers("bits 4;parts 1 1 1 1;", 0);
        budgetsAre(y, 15, 0, 0, -1, -1, -1, 0);
        budgetsAre(y, 15, 3, 0, 0, 0, 0, 0);
        budgetsAre(y, 15, 4, 1, 0, 0, 0, 1);
        AlikeStore z = numbers("bits 48;", 0);
        budgetsAre(z, 0, 48, 2, 23, 24);
        budgetsAre(z, 0, 24, 1, -1, 24);
        budgetsAre(z, 0, 25, 2, 0, 24);
    }

    private static void budgetsOfSeveralTheLeast() {
        AlikeStore x = Check.loaded("bits 6;parts 2 2 2;");
        budgetsAre(x, 0, 0, 0, -1, -1, 0);
        budgetsAre(x, 0, 2, 0, -1, -1, 2);
        budgetsAre(x, 0, 3, 0, -1, 0, 2);
        budgetsAre(x, 0, 5, 0, -1, 2, 2);
        budgetsAre(x, 0, 6, 0, 0, 2, 2);
        AlikeStore y = numbers("bits 6;parts 2 2 2;", 63);
        budgetsAre(y, 0, 0, 0, -1, -1, 0);
        budgetsAre(y, 0, 1, 0, -1, -1, 1);
        budgetsAre(y, 0, 2, 0, -1, 0, 1);
        budgetsAre(y, 0, 3, 0, -1, 1, 1);
        budgetsAre(y, 0, 5, 0, 1, 1, 1);
        budgetsAre(y, 0, 6, 1, 1, 1, 2);
    }

    private static void budgetsOfOnePart() {
        AlikeStore x = numbers("bits 24;parts 24;", 0, 1, 3, 0xffffff);
        int[] costs = {1, 2, 3, 3};
        for (int radius = 0; radius <= 24; radius++) {
            budgetsAre(x, 0, radius, radius == 24 ? 4 : costs[Math.min(radius, 3)], radius);
        }
    }

    private static void budgetsOfThoseThatCount() {
        AlikeStore x = Check.loaded("bits 4;parts 2 2;code 0000 tag 1;code 0001 tag 1;code 0100;filter tag = 0;");
        budgetsAre(x, 0, 0, 0, -1, 0);
        x.open();
        budgetsAre(x, 0, 0, 2, -1, 0);
        x.strike(1);
        budgetsAre(x, 0, 0, 1, -1, 0);
        x.strike(0);
        budgetsAre(x, 0, 0, 0, -1, 0);
        budgetsAre(x, 1, 0, 0, -1, 0);
        budgetsAre(x, 1, 1, 0, 0, 0);
        budgetsAre(x, 4, 0, 1, -1, 0);
    }

    private static void costFromNoneToAll() {
        AlikeStore x = sixParts();
        for (int part = 0; part < 6; part++) {
            int breadth = x.breadth(part);
            check.refused("below -1", x, x.cost(0, part, -2), 1);
            check.fine("-1: 0", x, x.cost(0, part, -1), 0);
            check.fine("its BREADTH: all", x, x.cost(0, part, breadth), 7);
            check.refused("above it", x, x.cost(0, part, breadth + 1), 1);
        }
        check.refused("a seventh PART", x, x.cost(0, 6, 0), 2);
        check.fine("exactly, in the first", x, x.cost(0, 0, 0), 4);
        check.fine("exactly, in the last", x, x.cost(0, 5, 0), 4);
        check.fine("exactly, for the highest bit", x, x.cost(0x800000000000L, 5, 0), 3);
        check.fine("exactly, in a middle one", x, x.cost(0, 2, 0), 3);
        check.fine("1 off, in a middle one", x, x.cost(0, 2, 1), 5);
    }

    private static void nearIs(AlikeStore x, long number, int radius, int... due) {
        for (int what = 0; what < 5; what++) {
            check.fine("near " + number + " by " + radius + ", " + what, x, x.near(number, radius, what), due[what]);
        }
    }

    private static void nearEdges() {
        AlikeStore x = numbers("bits 4;", 0, 15, 1, 3);
        // For 0, PART 0 holds 1 by 0, 2 by 1, 4 by 2; PART 1 holds 3 by 0 and 1, 4 by 2.
        nearIs(x, 0, 0, 1, 1, 1, 1, 1);
        nearIs(x, 0, 1, 2, 2, 2, 5, 5);
        nearIs(x, 0, 2, 4, 4, 3, 15, 13);
        nearIs(x, 0, 3, 5, 4, 3, 15, 13);
        nearIs(x, 0, 4, 6, 4, 4, 15, 15);
        nearIs(x, 15, 0, 1, 1, 1, 2, 2);
        nearIs(x, 15, 4, 5, 4, 4, 15, 15);
        check.refused("BITS and 1", x, x.near(0, 5, 0), 1);
        check.refused("what 5", x, x.near(0, 4, 5), 1);
    }

    /** A CODE that is no more FAR than a budget in one PART is a CANDIDATE, whichever PART that is. */
    private static void candidatesInEachPart() {
        long[] froms = {0, 0xffffffffffffL, 0x123456789abdL};
        for (long from : froms) {
            for (int radius = 0; radius <= 48; radius += 3) {
                AlikeStore x = sixParts();
                int due = 0;
                int start = 0;
                for (int part = 0; part < 6; part++) {
                    int budget = x.budget(from, radius, part);
                    for (int code = 0; code < 7; code++) {
                        long key = from >> start & (1 << x.breadth(part)) - 1;
                        due |= Long.bitCount(key ^ x.key(code, part)) <= budget ? 1 << code : 0;
                    }
                    start += x.breadth(part);
                }
                check.fine("CANDIDATES by " + radius, x, x.near(from, radius, 3), due);
            }
        }
        // For 0, PART 0 holds none by 1, 3 by 2; the others hold 1 (PART 1 the second, PART 2 the first), 3 by 2.
        AlikeStore last = numbers("bits 6;parts 2 2 2;", 15, 48 + 3, 63);
        nearIs(last, 0, 1, 0, 0, 0, 0, 0);
        nearIs(last, 0, 2, 1, 1, 0, 1, 0);
        nearIs(last, 0, 3, 1, 1, 0, 1, 0);
        nearIs(last, 0, 4, 2, 2, 2, 3, 3);
        nearIs(last, 0, 5, 2, 2, 2, 3, 3);
    }

    private static void nearAreCandidates() {
        long[] froms = {0, 0xffffffffffffL, 0x123456789abdL, 0x7fffffffffffL};
        for (long from : froms) {
            AlikeStore x = sixParts();
            for (int radius = 0; radius <= 48; radius++) {
                int candidates = x.near(from, radius, 3);
                int near = x.near(from, radius, 4);
                check.due("all that are NEAR by " + radius, near & ~candidates, 0);
                check.fine("as many", x, x.near(from, radius, 1), Integer.bitCount(candidates));
                check.fine("as many NEAR", x, x.near(from, radius, 2), Integer.bitCount(near));
            }
            check.fine("all by BITS", x, x.near(from, 48, 4), 127);
        }
    }

    // ---- Promises 28 to 30

    private static void rankedAlikeOnes() {
        AlikeStore x = numbers("bits 4;", 15, 8, 4, 2, 1, 0);
        int[] of0 = {5, 1, 2, 3, 4, 0};
        int[] of15 = {0, 1, 2, 3, 4, 5};
        int[] of8 = {1, 5, 2, 3, 4, 0};
        for (int k = 0; k < 6; k++) {
            check.fine("by 0: " + k, x, x.ranked(0, k), of0[k]);
            check.fine("by 15: " + k, x, x.ranked(15, k), of15[k]);
            check.fine("by 8: " + k, x, x.ranked(8, k), k == 5 ? 0 : of8[k]);
        }
        check.refused("no seventh", x, x.ranked(0, 6), 5);
        AlikeStore y = numbers("bits 4;", 0, 3);
        check.fine("as FAR as one another", y, y.ranked(1, 0), 0);
        check.fine("the least number first, not the nearest by value", y, y.ranked(2, 0), 0);
        y.strike(0);
        y.add(0);
        check.fine("numbered anew", y, y.code(y.ranked(1, 0)), 3);
    }

    private static void grownEdges() {
        AlikeStore x = numbers("bits 4;parts 1 3;", 0, 15, 1);
        // For 0, PART 0 holds 1 by 0, 3 by 1; PART 1 holds 2 by 0 to 2, 3 by 3.
        int[] costs = {1, 2, 2, 3, 4};
        check.fine("COST in PART 0 by 0", x, x.cost(0, 0, 0), 1);
        check.fine("COST in PART 1 by 2", x, x.cost(0, 1, 2), 2);
        int[][] due = {{0, 1}, {1, 3}, {4, 12}};
        int together = 0;
        for (int radius = 0; radius <= 4; radius++) {
            check.fine("COST by " + radius, x, x.near(0, radius, 0), costs[radius]);
            together += costs[radius];
        }
        check.due("together", together, 12);
        for (int k = 1; k <= 3; k++) {
            check.fine("grown to " + k, x, x.grown(0, k, 0), due[k - 1][0]);
            check.fine("SPENT to " + k, x, x.grown(0, k, 1), due[k - 1][1]);
        }
        check.refused("grown to 4", x, x.grown(0, 4, 0), 6);
        check.refused("grown to 0", x, x.grown(0, 0, 0), 1);
        x.add(3);
        check.fine("grown to 4 now", x, x.grown(0, 4, 0), 4);
        x.strike(1);
        check.fine("the farthest is gone", x, x.grown(0, 3, 0), 2);
    }

    private static void apartAre(AlikeStore x, long number, int radius, int k, int... due) {
        for (int i = 0; i < due.length; i++) {
            check.fine("apart " + i + " by " + radius + ", " + k, x, x.apart(number, radius, k, i), due[i]);
        }
        check.refused("not so many", x, x.apart(number, radius, k, due.length), 5);
    }

    private static void apartEdges() {
        AlikeStore x = numbers("bits 8;", 0, 1, 3, 7, 15, 255);
        apartAre(x, 0, 0, 32, 0);
        apartAre(x, 0, 1, 32, 0, 1);
        apartAre(x, 0, 2, 32, 0, 2, 1);
        apartAre(x, 0, 8, 1, 0);
        apartAre(x, 0, 8, 2, 0, 5);
        apartAre(x, 0, 8, 6, 0, 5, 4, 2, 1, 3);
        apartAre(x, 0, 8, 32, 0, 5, 4, 2, 1, 3);
        apartAre(x, 255, 8, 3, 5, 0, 4);
        apartAre(x, 240, 3, 4);
        apartAre(x, 240, 4, 4, 0, 5);
        AlikeStore y = Check.loaded("bits 4;code 0000 tag 1;code 0001;code 1111;filter tag = 0;");
        apartAre(y, 0, 4, 32, 1, 2);
        y.open();
        apartAre(y, 0, 4, 32, 0, 2, 1);
    }

    // ---- Promises 31 to 36

    private static void pairsByEachRadius() {
        AlikeStore x = numbers("bits 4;", 0, 1, 3, 7, 15);
        int[] pairs = {0, 4, 7, 9, 10};
        for (int radius = 0; radius <= 4; radius++) {
            check.fine("pairs by " + radius, x, x.pairs(radius), pairs[radius]);
            check.refused("pair " + pairs[radius], x, x.pair(radius, pairs[radius], 0), 5);
            if (pairs[radius] > 0) {
                check.fine("the last of them", x, x.pair(radius, pairs[radius] - 1, 0), 3);
                check.fine("the other of it", x, x.pair(radius, pairs[radius] - 1, 1), 4);
                check.fine("how FAR", x, x.pair(radius, pairs[radius] - 1, 2), 1);
            }
        }
        check.refused("by 5", x, x.pairs(5), 1);
        check.refused("pair by 5", x, x.pair(5, 0, 0), 1);
    }

    private static void pairsAllToldOnce() {
        AlikeStore x = numbers("bits 4;", 15, 0, 8, 1);
        int[][] due = {{0, 1, 4}, {0, 2, 3}, {0, 3, 3}, {1, 2, 1}, {1, 3, 1}, {2, 3, 2}};
        for (int i = 0; i < 6; i++) {
            for (int what = 0; what < 3; what++) {
                check.fine("pair " + i + ", " + what, x, x.pair(4, i, what), due[i][what]);
            }
        }
        int[][] near = {{1, 2, 1}, {1, 3, 1}, {2, 3, 2}};
        for (int i = 0; i < 3; i++) {
            for (int what = 0; what < 3; what++) {
                check.fine("near pair " + i + ", " + what, x, x.pair(2, i, what), near[i][what]);
            }
        }
        AlikeStore wide = numbers("bits 48;", 0xffffffffffffL, 0);
        int[] all = {0, 1, 48};
        for (int what = 0; what < 3; what++) {
            check.fine("all BITS", wide, wide.pair(48, 0, what), all[what]);
            check.refused("one less", wide, wide.pair(47, 0, what), 5);
        }
    }

    private static void joinedEdges() {
        AlikeStore x = numbers("bits 4;parts 1 3;", 0, 15, 1);
        // COST for 0 among 15 and 1, for 15 among 1; for 1 there is none.
        int[] first = {0, 1, 1, 1, 2};
        int[] second = {0, 0, 0, 1, 1};
        for (int radius = 0; radius <= 4; radius++) {
            check.fine("joined by " + radius, x, x.joined(radius), first[radius] + second[radius]);
        }
        check.refused("by 5", x, x.joined(5), 1);
        x.strike(2);
        check.fine("of two, by all BITS", x, x.joined(4), 1);
        x.strike(0);
        check.fine("of one", x, x.joined(4), 0);
        AlikeStore y = Check.loaded("bits 4;parts 1 3;code 0000;code 1111 tag 1;code 0001;filter tag = 0;");
        check.fine("of those that COUNT", y, y.joined(4), 1);
    }

    private static void closestOfTwo() {
        AlikeStore x = numbers("bits 48;", 0, 0xffffffffffffL);
        int[] due = {0, 1, 48};
        for (int what = 0; what < 3; what++) {
            check.fine("two that are all unlike", x, x.closest(what), due[what]);
        }
        x.add(0x7fffffffffffL);
        x.add(1);
        int[] nearer = {0, 3, 1};
        for (int what = 0; what < 3; what++) {
            check.fine("of alike ones the first as PAIRS go", x, x.closest(what), nearer[what]);
        }
        x.strike(0);
        int[] then = {0, 1, 1};
        for (int what = 0; what < 3; what++) {
            check.fine("then", x, x.closest(what), then[what]);
        }
        x.strike(2);
        x.strike(1);
        check.refused("one", x, x.closest(0), 5);
        x.strike(0);
        check.refused("none", x, x.closest(0), 5);
    }

    private static void clustersAre(AlikeStore x, int radius, int... due) {
        for (int what = 0; what < 3; what++) {
            check.fine("clusters by " + radius + ", " + what, x, x.clusters(radius, what), due[what]);
        }
    }

    private static void clusterIs(AlikeStore x, int code, int radius, int... due) {
        for (int what = 0; what < 3; what++) {
            check.fine("cluster of " + code + " by " + radius + ", " + what, x, x.cluster(code, radius, what),
                    due[what]);
        }
    }

    private static void clustersByEachRadius() {
        AlikeStore x = numbers("bits 8;", 0, 255, 1, 7);
        clustersAre(x, 0, 4, 1, 0);
        clustersAre(x, 1, 3, 2, 0);
        clustersAre(x, 2, 2, 3, 0);
        clustersAre(x, 4, 2, 3, 0);
        clustersAre(x, 5, 1, 4, 0);
        clustersAre(x, 8, 1, 4, 0);
        check.refused("by 9", x, x.clusters(9, 0), 1);
        clusterIs(x, 3, 1, 3, 1, 3);
        clusterIs(x, 3, 2, 0, 3, 2);
        clusterIs(x, 1, 4, 1, 1, 1);
        clusterIs(x, 1, 5, 0, 4, 2);
        clusterIs(x, 0, 0, 0, 1, 0);
        check.refused("cluster by 9", x, x.cluster(0, 9, 0), 1);
    }

    private static void clustersOfSeveralTheLeast() {
        AlikeStore x = numbers("bits 8;", 15, 240, 241, 0, 1, 255);
        clustersAre(x, 1, 4, 2, 1);
        clustersAre(x, 0, 6, 1, 0);
        AlikeStore y = numbers("bits 8;", 15, 240, 0, 241, 1, 3);
        clustersAre(y, 1, 3, 3, 2);
        AlikeStore chain = numbers("bits 8;", 255, 0, 127, 1, 63, 3, 31, 7, 15);
        clustersAre(chain, 1, 1, 9, 0);
        clusterIs(chain, 8, 1, 0, 9, 8);
        chain.strike(8);
        clustersAre(chain, 1, 2, 4, 0);
        clusterIs(chain, 7, 1, 1, 4, 3);
    }

    private static void clustersOfThoseThatCount() {
        AlikeStore x = Check.loaded("bits 4;code 0000;code 0001 tag 1;code 0011;code 0111;filter tag = 0;");
        clustersAre(x, 1, 2, 2, 2);
        check.refused("it does not COUNT", x, x.cluster(1, 1, 0), 6);
        clusterIs(x, 0, 1, 0, 1, 0);
        clusterIs(x, 3, 1, 2, 2, 2);
        x.open();
        clustersAre(x, 1, 1, 4, 0);
        clusterIs(x, 1, 1, 0, 4, 1);
    }

    private static void middleOfSeveralTheLeast() {
        AlikeStore x = numbers("bits 4;", 1, 0, 3, 7);
        clusterIs(x, 3, 1, 0, 4, 0);
        AlikeStore y = numbers("bits 4;", 0, 1, 3, 7, 15);
        clusterIs(y, 0, 1, 0, 5, 2);
        AlikeStore two = numbers("bits 4;", 1, 0);
        clusterIs(two, 1, 1, 0, 2, 0);
    }

    // ---- Promises 37 to 44

    private static void voteMoreThanHalf() {
        AlikeStore x = numbers("bits 4;", 1, 3, 7, 15);
        check.fine("none", x, x.vote(0), 0);
        check.fine("one", x, x.vote(4), 7);
        check.fine("half is not more", x, x.vote(3), 1);
        check.fine("two of three", x, x.vote(7), 3);
        check.fine("all four", x, x.vote(15), 3);
        check.refused("one of no CODE", x, x.vote(16), 1);
        check.refused("and others", x, x.vote(17), 1);
        AlikeStore wide = numbers("bits 48;", 0xffffffffffffL, 0x800000000000L, 1);
        check.fine("the ends", wide, wide.vote(7), 0x800000000001L);
        check.fine("all bits", wide, wide.vote(1), 0xffffffffffffL);
        AlikeStore y = Check.loaded("bits 4;code 1111 tag 1;code 0011;filter tag = 0;");
        check.fine("those that do not COUNT too", y, y.vote(1), 15);
        y.strike(1);
        check.refused("one that is gone", y, y.vote(2), 1);
    }

    private static void likeOpenAndShut() {
        AlikeStore x = numbers("bits 48;", 0, 0xffffffffffffL, 0x800000000000L, 1);
        check.fine("all open", x, x.like(0, 0xffffffffffffL), 15);
        check.fine("none open", x, x.like(0xffffffffffffL, 1), 8);
        check.fine("none so", x, x.like(0xffffffffffffL, 2), 0);
        check.fine("the highest bit", x, x.like(0x800000000000L, 0xffffffffffffL), 6);
        check.fine("the highest bit, 0", x, x.like(0x800000000000L, 0), 9);
        check.fine("both ends", x, x.like(0x800000000001L, 1), 8);
        check.refused("a mask of 49", x, x.like(1L << 48, 0), 1);
        check.refused("a number of 49", x, x.like(0, 1L << 48), 1);
    }

    private static void onesAtTheEnds() {
        AlikeStore x = numbers("bits 48;", 0, 0xffffffffffffL, 0x800000000000L, 1);
        check.fine("the lowest", x, x.ones(0), 2);
        check.fine("the highest", x, x.ones(47), 2);
        check.fine("between", x, x.ones(24), 1);
        check.refused("48", x, x.ones(48), 1);
        check.refused("-1", x, x.ones(-1), 1);
    }

    private static void tellingAsNearAsCanBe() {
        check.due("the last bit", telling("bits 48;", 0, 1L << 47), 47);
        check.due("of several the least", telling("bits 4;", 0, 15), 0);
        check.due("none parts: the least", telling("bits 4;", 5), 0);
        check.due("one apart is nearer than none", telling("bits 4;", 0, 2, 8), 1);
        check.due("two apart is not", telling("bits 4;", 15, 14, 12, 13), 0);
        check.due("as near from above as from below", telling("bits 4;", 14, 10, 2, 3, 1), 0);
        check.due("the nearest is behind", telling("bits 4;", 15, 11, 9, 8), 1);
    }

    private static int telling(String head, long... codes) {
        return numbers(head, codes).telling();
    }

    private static void alikeOfOneBit() {
        AlikeStore x = numbers("bits 4;", 0, 9, 8, 15);
        check.fine("the ends", x, x.alike(0, 3), 3);
        check.fine("the other way", x, x.alike(3, 0), 3);
        check.fine("one bit", x, x.alike(3, 3), 4);
        check.fine("between", x, x.alike(1, 2), 4);
        check.refused("no bit", x, x.alike(4, 4), 1);
        AlikeStore y = Check.loaded("bits 4;code 0000 tag 1;code 1001;filter tag = 0;");
        check.fine("of those that COUNT", y, y.alike(0, 3), 1);
    }

    private static void spreadEdges() {
        AlikeStore x = numbers("bits 6;parts 2 2 2;", 0, 21, 42, 63, 1, 16);
        int[][] due = {{4, 2}, {4, 3}, {4, 2}};
        for (int part = 0; part < 3; part++) {
            for (int what = 0; what < 2; what++) {
                check.fine("spread of " + part + ", " + what, x, x.spread(part, what), due[part][what]);
            }
        }
        check.refused("a fourth", x, x.spread(3, 0), 2);
        x.merge(0);
        check.fine("of a broader one", x, x.spread(0, 0), 5);
        check.fine("the most of it", x, x.spread(0, 1), 2);
        x.merge(0);
        check.fine("of the only one", x, x.spread(0, 0), 6);
        check.fine("each once", x, x.spread(0, 1), 1);
    }

    /** Which BREADTHS can part BITS: 1 to 24 both of them; 6 where the upper one can't be. */
    private static void partedBreadths() {
        for (int bits : new int[] {4, 5, 24, 25, 26, 47, 48}) {
            for (int lower = -1; lower <= 26; lower++) {
                AlikeStore x = numbers("bits " + bits + ";", 0);
                int upper = bits - lower;
                String what = "parted by " + lower + " of " + bits;
                if (lower < 1 || lower > 24) {
                    check.refused(what, x, x.parted(lower, 0), 1);
                } else if (upper < 1 || upper > 24) {
                    check.refused(what, x, x.parted(lower, 0), 6);
                } else {
                    check.fine(what, x, x.parted(lower, 0), 1);
                    check.fine(what + ", all", x, x.parted(lower, bits), 2);
                }
            }
        }
    }

    /** By a RADIUS that one PART can't hold, the other one must be looked into. */
    private static void partedWithinBreadths() {
        AlikeStore x = numbers("bits 4;parts 4;", 0, 8, 4);
        // The lower PART holds all, always. The upper one: for 0 1 by 0, 3 by 1; for others 1 by 0, 2 by 1, 3 by 2.
        int[] by1 = {3, 7, 9, 9, 18};
        for (int radius = 0; radius <= 4; radius++) {
            check.fine("parted by 1, " + radius, x, x.parted(1, radius), by1[radius]);
        }
        check.fine("the PARTS stay", x, x.many(1), 1);
        check.fine("its BREADTH too", x, x.breadth(0), 4);
        AlikeStore y = numbers("bits 48;", 0, 0xffffffffffffL);
        check.fine("halves, by 0", y, y.parted(24, 0), 2);
        check.fine("halves, by 24", y, y.parted(24, 24), 4);
        check.fine("halves, by 46", y, y.parted(24, 46), 4);
        check.fine("halves, by 47", y, y.parted(24, 47), 4);
        check.fine("halves, by 48", y, y.parted(24, 48), 6);
    }

    /** The PARTS that the STORE has don't matter, nor what has been asked of them ahead. */
    private static void partedByJustTheseTwo() {
        String[] parts = {"parts 4 4;", "parts 8;", "parts 1 1 6;", "parts 1 1 1 1 1 3;"};
        for (String told : parts) {
            AlikeStore x = numbers("bits 8;" + told, 0, 1, 3, 16, 48, 255);
            AlikeStore halves = numbers("bits 8;parts 4 4;", 0, 1, 3, 16, 48, 255);
            for (int radius = 0; radius <= 8; radius++) {
                int together = 0;
                for (int code = 0; code < 6; code++) {
                    together += halves.near(halves.code(code), radius, 0);
                }
                x.near(0, radius, 0);
                x.joined(radius);
                check.fine("parted by 4, " + radius + ", of " + told, x, x.parted(4, radius), together);
                int best = 1;
                for (int lower = 2; lower < 8; lower++) {
                    best = x.parted(lower, radius) < x.parted(best, radius) ? lower : best;
                }
                check.fine("bestPart by " + radius + ", of " + told, x, x.bestPart(radius), best);
            }
        }
    }

    private static void bestPartOfEachBits() {
        for (int bits = 4; bits <= 48; bits++) {
            AlikeStore x = Check.loaded("bits " + bits + ";");
            int least = Math.max(1, bits - 24);
            check.fine("of several the least, of " + bits, x, x.bestPart(0), least);
            check.fine("by all BITS", x, x.bestPart(bits), least);
            check.refused("by one more", x, x.bestPart(bits + 1), 1);
        }
    }

    private static void bestPartAtTheEnds() {
        AlikeStore low = numbers("bits 26;", 0, 1, 2, 3);
        check.fine("the least that can be", low, low.bestPart(0), 2);
        AlikeStore high = numbers("bits 26;", 0, 1L << 24, 1L << 25, 3L << 24);
        check.fine("two bits above", high, high.parted(24, 0), 4);
        check.fine("two above, two below", high, high.parted(23, 0), 4);
        check.fine("of several the least", high, high.bestPart(0), 2);
        AlikeStore last = numbers("bits 26;", 0, 1L << 23, 1, 1L << 23 | 1);
        check.fine("all unlike in the lower one", last, last.parted(24, 0), 4);
        check.fine("not so by 23", last, last.parted(23, 0), 8);
        check.fine("the greatest that can be", last, last.bestPart(0), 24);
        AlikeStore none = Check.loaded("bits 26;code " + "0".repeat(26) + " tag 1;filter tag = 0;");
        check.fine("none COUNTS", none, none.bestPart(0), 2);
    }
}

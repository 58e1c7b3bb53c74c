import java.util.function.Supplier;

/**
 * Section 3: each call that can't be done, by each of its STATUS numbers and by two that hold at once:
 * it gives NONE, tells the first of them, and changes nothing.
 */
public final class RefusedTest {
    private interface Call {
        long on(AlikeStore x);
    }

    private static final Check check = new Check();
    private static final int[] OUTSIDE = {-1, Integer.MIN_VALUE, Integer.MAX_VALUE};
    private static final long[] NO_NUMBERS = {-1, 256, Long.MIN_VALUE, Long.MAX_VALUE, 1L << 32, 1L << 48};
    private static int told = 0;

    public static void main(String[] args) {
        load();
        whatThereIs();
        acts();
        actsAtTheirLimits();
        byNumberAndRadius();
        amongThemselves();
        noneCount();
        check.end("RefusedTest");
    }

    /** Five CODES of 8 BITS, two ACTS, a MARK between them, 20 bytes on the tape, a FAULT told. */
    private static AlikeStore five() {
        AlikeStore x = Check.loaded("bits 8;parts 3 5;code 00000000;code 00000111 tag 2;code 11111111;"
                + "code 10000001 tag 2;filter ones < 9;");
        x.mark();
        x.add(1);
        Check.load(x, "bits 9;#");
        Check.feed(x, "bits 5;" + "             ");
        return x;
    }

    private static AlikeStore two() {
        return Check.loaded("bits 8;parts 1 1 1 1 2 2;code 00000000;code 00000001;");
    }

    private static AlikeStore noneCounting() {
        return Check.loaded("bits 8;parts 3 5;code 00000000;code 00000111 tag 2;filter ones > 8;");
    }

    /** All that can be told of an object, at last by undoing what can be undone. */
    private static String whole(AlikeStore x) {
        StringBuilder whole = new StringBuilder(Check.told(x));
        whole.append(x.many(5)).append(' ').append(x.many(6)).append(' ');
        whole.append(x.fault(0)).append(' ').append(x.fault(1)).append(' ').append(x.feed(0, 0, 0, 0, 0)).append(' ');
        int acts = x.many(5);
        for (int i = 0; i < acts; i++) {
            whole.append(x.undo()).append(' ').append(Check.told(x));
        }
        int marks = x.many(6);
        for (int i = 0; i < marks; i++) {
            whole.append(x.back()).append(' ').append(Check.told(x));
        }
        return whole.append(x.many(5)).toString();
    }

    private static void refused(Supplier<AlikeStore> made, String what, int status, Call call) {
        told++;
        AlikeStore x = made.get();
        check.refused(what, x, call.on(x), status);
        check.due("status() of " + what + ", again", x.status(), status);
        check.same("what " + what + " left", whole(x), whole(made.get()));
        AlikeStore y = made.get();
        call.on(y);
        check.fine("a call behind " + what, y, y.many(1), made.get().many(1));
    }

    private static void of5(String what, int status, Call call) {
        refused(RefusedTest::five, what, status, call);
    }

    private static void load() {
        for (int n : new int[] {-1, 21, 900, 901, Integer.MIN_VALUE, Integer.MAX_VALUE}) {
            of5("load " + n, 1, x -> x.load(n));
        }
        AlikeStore x = five();
        check.refused("load with a FAULT", x, x.load(20 - 14), 9);
        check.due("the FAULT is told", x.fault(0), 2);
        check.due("and its place", x.fault(1), 6);
        check.refused("the tape is gone", x, x.load(1), 1);
        Check.load(x, "bits 9;#");
        Check.feed(x, "bits 5;" + "             ");
        check.same("else nothing changed", whole(x), whole(five()));
    }

    private static void whatThereIs() {
        for (int none : new int[] {-1, 8, Integer.MIN_VALUE, Integer.MAX_VALUE}) {
            of5("many " + none, 1, x -> x.many(none));
        }
        for (int none : new int[] {-1, 5, 31, 32, Integer.MIN_VALUE, Integer.MAX_VALUE}) {
            of5("code " + none, 2, x -> x.code(none));
            of5("tagOf " + none, 2, x -> x.tagOf(none));
            of5("key of " + none, 2, x -> x.key(none, 0));
            of5("key of " + none + " in none", 2, x -> x.key(none, none));
            of5("far of " + none, 2, x -> x.far(none, 0));
            of5("far of " + none + " from none", 1, x -> x.far(none, 256));
            of5("measure of " + none, 2, x -> x.measure(none, 0, 0));
            of5("measure to " + none, 2, x -> x.measure(0, none, 0));
            of5("no measure of " + none, 1, x -> x.measure(none, 0, 4));
            of5("no measure to " + none, 1, x -> x.measure(0, none, -1));
        }
        for (int none : new int[] {-1, 2, 5, 6, Integer.MIN_VALUE, Integer.MAX_VALUE}) {
            of5("breadth of " + none, 2, x -> x.breadth(none));
            of5("key in " + none, 2, x -> x.key(0, none));
        }
        for (long none : NO_NUMBERS) {
            of5("far from " + none, 1, x -> x.far(0, none));
            of5("find " + none, 1, x -> x.find(none));
        }
        for (int none : new int[] {-1, 4, Integer.MIN_VALUE, Integer.MAX_VALUE}) {
            of5("measure " + none, 1, x -> x.measure(0, 1, none));
        }
        of5("find 2", 5, x -> x.find(2));
        of5("find 254", 5, x -> x.find(254));
    }

    private static void acts() {
        for (long none : NO_NUMBERS) {
            of5("add " + none, 1, x -> x.add(none));
        }
        of5("add 0", 4, x -> x.add(0));
        of5("add 1", 4, x -> x.add(1));
        for (int none : new int[] {-1, 5, 32, Integer.MIN_VALUE, Integer.MAX_VALUE}) {
            of5("strike " + none, 2, x -> x.strike(none));
            of5("flip of " + none, 2, x -> x.flip(none, 0));
            of5("flip of " + none + " by none", 1, x -> x.flip(none, 8));
            of5("tag of " + none, 2, x -> x.tag(none, 1));
            of5("no tag of " + none, 1, x -> x.tag(none, 10));
        }
        for (int none : new int[] {-1, 8, 32, 64, 72, Integer.MIN_VALUE, Integer.MAX_VALUE}) {
            of5("flip by " + none, 1, x -> x.flip(0, none));
            of5("swap " + none, 1, x -> x.swap(none, 0));
            of5("swap to " + none, 1, x -> x.swap(0, none));
            of5("swap both " + none, 1, x -> x.swap(none, none));
        }
        of5("flip to one that is there", 4, x -> x.flip(0, 0));
        of5("flip to another that is there", 4, x -> x.flip(4, 7));
        of5("swap of the lowest bit", 4, x -> x.swap(0, 0));
        of5("swap of the highest bit", 4, x -> x.swap(7, 7));
        for (int none : new int[] {-1, 10, Integer.MIN_VALUE, Integer.MAX_VALUE}) {
            of5("tag " + none, 1, x -> x.tag(0, none));
        }
        of5("tag as it is", 4, x -> x.tag(1, 2));
        of5("tag 0 as it is", 4, x -> x.tag(0, 0));
        for (int none : new int[] {0, -1, 3, 4, 24, 25, Integer.MIN_VALUE, Integer.MAX_VALUE}) {
            of5("split by " + none, 1, x -> x.split(0, none));
        }
        of5("split of the other by 5", 1, x -> x.split(1, 5));
        for (int none : new int[] {-1, 2, 6, Integer.MIN_VALUE, Integer.MAX_VALUE}) {
            of5("split of " + none, 2, x -> x.split(none, 1));
            of5("split of " + none + " by 0", 1, x -> x.split(none, 0));
            of5("merge of " + none, 2, x -> x.merge(none));
        }
        of5("merge of the last", 2, x -> x.merge(1));
    }

    private static AlikeStore full() {
        StringBuilder text = new StringBuilder("bits 8;filter ones < 9;");
        for (int i = 0; i < 32; i++) {
            text.append("code ").append(Integer.toBinaryString(256 + 3 * i).substring(1)).append(';');
        }
        return Check.loaded(text.toString());
    }

    private static AlikeStore threeMarks() {
        AlikeStore x = five();
        x.mark();
        x.mark();
        return x;
    }

    private static void actsAtTheirLimits() {
        refused(RefusedTest::full, "a 33rd", 3, x -> x.add(1));
        refused(RefusedTest::full, "a 33rd that is there", 3, x -> x.add(0));
        refused(RefusedTest::full, "a 33rd that can't be", 1, x -> x.add(256));
        refused(RefusedTest::two, "a seventh PART", 3, x -> x.split(4, 1));
        refused(RefusedTest::two, "a seventh PART of none", 2, x -> x.split(6, 1));
        refused(RefusedTest::two, "a seventh PART by 0", 1, x -> x.split(4, 0));
        refused(RefusedTest::two, "a seventh PART as broad", 1, x -> x.split(4, 2));
        refused(RefusedTest::two, "merge of the sixth", 2, x -> x.merge(5));
        Supplier<AlikeStore> wide = () -> Check.loaded("bits 48;parts 12 13 11 12;");
        refused(wide, "25 broad", 6, x -> x.merge(0));
        refused(() -> Check.loaded("bits 48;"), "48 broad", 6, x -> x.merge(0));
        refused(() -> Check.loaded("bits 24;parts 24;"), "merge of the only one", 2, x -> x.merge(0));
        refused(RefusedTest::two, "open without", 5, AlikeStore::open);
        refused(AlikeStore::new, "undo of nothing", 5, AlikeStore::undo);
        refused(AlikeStore::new, "back to nothing", 5, AlikeStore::back);
        refused(RefusedTest::two, "back without", 5, AlikeStore::back);
        refused(RefusedTest::threeMarks, "a fourth MARK", 3, AlikeStore::mark);
    }

    private static void byNumberAndRadius() {
        for (long none : NO_NUMBERS) {
            of5("budget for " + none, 1, x -> x.budget(none, 0, 0));
            of5("budget of none for " + none, 1, x -> x.budget(none, 0, 2));
            of5("cost for " + none, 1, x -> x.cost(none, 0, 0));
            of5("cost of none for " + none, 1, x -> x.cost(none, 2, 0));
            of5("near " + none, 1, x -> x.near(none, 0, 0));
            of5("ranked by " + none, 1, x -> x.ranked(none, 0));
            of5("ranked too far by " + none, 1, x -> x.ranked(none, 5));
            of5("grown at " + none, 1, x -> x.grown(none, 1, 0));
            of5("grown too far at " + none, 1, x -> x.grown(none, 6, 0));
            of5("apart by " + none, 1, x -> x.apart(none, 0, 1, 0));
            of5("apart too far by " + none, 1, x -> x.apart(none, 0, 1, 1));
        }
        for (int none : new int[] {-1, 9, Integer.MIN_VALUE, Integer.MAX_VALUE}) {
            of5("budget by " + none, 1, x -> x.budget(0, none, 0));
            of5("budget of none by " + none, 1, x -> x.budget(0, none, 2));
            of5("near by " + none, 1, x -> x.near(0, none, 0));
            of5("apart by radius " + none, 1, x -> x.apart(0, none, 1, 0));
        }
        for (int none : new int[] {-1, 2, 6, Integer.MIN_VALUE, Integer.MAX_VALUE}) {
            of5("budget of " + none, 2, x -> x.budget(0, 0, none));
            of5("cost of " + none, 2, x -> x.cost(0, none, 0));
            of5("cost of " + none + " by -2", 1, x -> x.cost(0, none, -2));
        }
        for (int none : new int[] {-2, 4, Integer.MIN_VALUE, Integer.MAX_VALUE}) {
            of5("cost by " + none, 1, x -> x.cost(0, 0, none));
        }
        of5("cost by 6 of 5", 1, x -> x.cost(0, 1, 6));
        for (int none : new int[] {-1, 5, Integer.MIN_VALUE, Integer.MAX_VALUE}) {
            of5("near what " + none, 1, x -> x.near(0, 0, none));
        }
        for (int none : OUTSIDE) {
            int status = none < 0 ? 1 : 5;
            of5("ranked " + none, status, x -> x.ranked(0, none));
            of5("apart i " + none, status, x -> x.apart(0, 8, 5, none));
            of5("grown to " + none, none < 0 ? 1 : 6, x -> x.grown(0, none, 0));
            of5("grown what " + none, 1, x -> x.grown(0, 1, none));
            of5("apart k " + none, 1, x -> x.apart(0, 8, none, 0));
        }
        of5("ranked 5 of 5", 5, x -> x.ranked(0, 5));
        of5("grown to 0", 1, x -> x.grown(0, 0, 0));
        of5("grown to 6 of 5", 6, x -> x.grown(0, 6, 1));
        of5("grown to 6 of 5, what 2", 1, x -> x.grown(0, 6, 2));
        of5("apart k 0", 1, x -> x.apart(0, 8, 0, 0));
        of5("apart k 33", 1, x -> x.apart(0, 8, 33, 0));
        of5("apart 5 of 5", 5, x -> x.apart(0, 8, 32, 5));
        of5("apart 2 of k 2", 5, x -> x.apart(0, 8, 2, 2));
        of5("apart of none near", 5, x -> x.apart(24, 0, 1, 0));
    }

    private static void amongThemselves() {
        for (int none : new int[] {-1, 9, Integer.MIN_VALUE, Integer.MAX_VALUE}) {
            of5("pairs by " + none, 1, x -> x.pairs(none));
            of5("pair by " + none, 1, x -> x.pair(none, 0, 0));
            of5("no pair by " + none, 1, x -> x.pair(none, 10, 0));
            of5("joined by " + none, 1, x -> x.joined(none));
            of5("clusters by " + none, 1, x -> x.clusters(none, 0));
            of5("cluster by " + none, 1, x -> x.cluster(0, none, 0));
            of5("cluster of none by " + none, 1, x -> x.cluster(5, none, 0));
            of5("parted by radius " + none, 1, x -> x.parted(4, none));
            of5("parted so far by radius " + none, 1, x -> x.parted(8, none));
            of5("bestPart by " + none, 1, x -> x.bestPart(none));
        }
        for (int none : new int[] {-1, 3, Integer.MIN_VALUE, Integer.MAX_VALUE}) {
            of5("pair what " + none, 1, x -> x.pair(8, 0, none));
            of5("no pair what " + none, 1, x -> x.pair(8, 10, none));
            of5("closest what " + none, 1, x -> x.closest(none));
            of5("clusters what " + none, 1, x -> x.clusters(8, none));
            of5("cluster what " + none, 1, x -> x.cluster(0, 8, none));
            of5("cluster of none what " + none, 1, x -> x.cluster(-1, 8, none));
        }
        for (int none : new int[] {-1, Integer.MIN_VALUE}) {
            of5("pair " + none, 1, x -> x.pair(8, none, 0));
        }
        for (int none : new int[] {10, Integer.MAX_VALUE}) {
            of5("pair " + none, 5, x -> x.pair(8, none, 0));
        }
        of5("pair of none so near", 5, x -> x.pair(0, 0, 0));
        for (int none : new int[] {-1, 5, 31, 32, Integer.MIN_VALUE, Integer.MAX_VALUE}) {
            of5("cluster of " + none, 2, x -> x.cluster(none, 8, 0));
        }
        for (int none : new int[] {32, 63, -1, Integer.MIN_VALUE, Integer.MAX_VALUE}) {
            of5("vote of " + none, 1, x -> x.vote(none));
        }
        refused(AlikeStore::new, "vote without CODES", 1, x -> x.vote(1));
        for (long none : NO_NUMBERS) {
            of5("like by mask " + none, 1, x -> x.like(none, 0));
            of5("like " + none, 1, x -> x.like(0, none));
        }
        for (int none : new int[] {-1, 8, 32, 64, Integer.MIN_VALUE, Integer.MAX_VALUE}) {
            of5("ones of " + none, 1, x -> x.ones(none));
            of5("alike of " + none, 1, x -> x.alike(none, 0));
            of5("alike to " + none, 1, x -> x.alike(0, none));
        }
        for (int none : new int[] {-1, 2, Integer.MIN_VALUE, Integer.MAX_VALUE}) {
            of5("spread what " + none, 1, x -> x.spread(0, none));
            of5("spread of " + none, 2, x -> x.spread(none, 0));
            of5("spread of none what " + none, 1, x -> x.spread(none, none));
        }
        for (int none : new int[] {0, -1, 25, Integer.MIN_VALUE, Integer.MAX_VALUE}) {
            of5("parted by " + none, 1, x -> x.parted(none, 0));
        }
        for (int lower : new int[] {8, 9, 24}) {
            of5("parted by " + lower + " of 8", 6, x -> x.parted(lower, 0));
        }
        Supplier<AlikeStore> wide = () -> Check.loaded("bits 48;");
        refused(wide, "an upper one of 25", 6, x -> x.parted(23, 0));
        refused(wide, "an upper one of 47", 6, x -> x.parted(1, 0));
    }

    private static void noneCount() {
        Supplier<AlikeStore> none = RefusedTest::noneCounting;
        refused(none, "ranked of none", 5, x -> x.ranked(0, 0));
        refused(none, "grown to one of none", 6, x -> x.grown(0, 1, 0));
        refused(none, "apart of none", 5, x -> x.apart(0, 8, 32, 0));
        refused(none, "pair of none", 5, x -> x.pair(8, 0, 0));
        refused(none, "closest of none", 5, x -> x.closest(0));
        refused(none, "closest of none, what 3", 1, x -> x.closest(3));
        refused(none, "clusters of none", 5, x -> x.clusters(8, 2));
        refused(none, "cluster of one that does not COUNT", 6, x -> x.cluster(1, 8, 0));
        refused(none, "cluster of no CODE", 2, x -> x.cluster(2, 8, 0));
        refused(none, "cluster of one that does not COUNT, what 3", 1, x -> x.cluster(1, 8, 3));
        Supplier<AlikeStore> one = () -> Check.loaded("bits 8;code 00000000;code 00000111 tag 2;filter tag = 2;");
        refused(one, "closest of one", 5, x -> x.closest(2));
        refused(one, "grown to two of one", 6, x -> x.grown(0, 2, 0));
        refused(one, "cluster of the other", 6, x -> x.cluster(0, 0, 2));
        check.due("calls that were refused", told > 400 ? 1 : 0, 1);
    }
}

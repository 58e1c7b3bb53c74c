/** Promises 6 to 13: what there is. */
public final class ContentTest {
    private static final Check check = new Check();
    private static final String FOUR = "bits 8;parts 3 5;code 00000000;code 00000111 tag 2;code 11111111;"
            + "code 10000001 tag 2;";

    public static void main(String[] args) {
        many();
        codeAndTag();
        breadthAndKey();
        far();
        measure();
        find();
        widest();
        check.end("ContentTest");
    }

    /** Promise 6. */
    private static void many() {
        AlikeStore x = Check.loaded(FOUR + "filter tag = 2;");
        x.mark();
        x.mark();
        int[] many = {8, 2, 4, 2, 10, 1, 2, 1};
        for (int what = 0; what < 8; what++) {
            check.fine("many " + what, x, x.many(what), many[what]);
        }
        check.refused("many 8", x, x.many(8), 1);
        check.refused("many -1", x, x.many(-1), 1);
        AlikeStore full = new AlikeStore();
        for (int i = 0; i < 32; i++) {
            full.add(i);
        }
        check.fine("a set of all 32", full, full.many(4), -1);
        check.fine("32", full, full.many(3), 32);
        full.strike(0);
        check.fine("a set of 31", full, full.many(4), Integer.MAX_VALUE);
    }

    /** Promises 7 and 8. */
    private static void codeAndTag() {
        AlikeStore x = Check.loaded(FOUR);
        check.fine("code 0", x, x.code(0), 0);
        check.fine("code 3", x, x.code(3), 129);
        check.fine("tag of 3", x, x.tagOf(3), 2);
        check.fine("tag of 2", x, x.tagOf(2), 0);
        for (int code : new int[] {4, -1, 32, Integer.MAX_VALUE, Integer.MIN_VALUE}) {
            check.refused("code " + code, x, x.code(code), 2);
            check.refused("tagOf " + code, x, x.tagOf(code), 2);
        }
    }

    /** Promises 9 and 10. */
    private static void breadthAndKey() {
        AlikeStore x = Check.loaded(FOUR);
        check.fine("breadth 0", x, x.breadth(0), 3);
        check.fine("breadth 1", x, x.breadth(1), 5);
        check.fine("key 1 0", x, x.key(1, 0), 7);
        check.fine("key 1 1", x, x.key(1, 1), 0);
        check.fine("key 3 0", x, x.key(3, 0), 1);
        check.fine("key 3 1", x, x.key(3, 1), 16);
        check.fine("key 2 1", x, x.key(2, 1), 31);
        for (int none : new int[] {-1, 7, Integer.MAX_VALUE, Integer.MIN_VALUE}) {
            check.refused("breadth " + none, x, x.breadth(none), 2);
            check.refused("key of code " + none, x, x.key(none, 0), 2);
            check.refused("key in part " + none, x, x.key(0, none), 2);
        }
        check.refused("key 4 0", x, x.key(4, 0), 2);
        check.refused("key 0 2", x, x.key(0, 2), 2);
    }

    /** Promise 11. */
    private static void far() {
        AlikeStore x = Check.loaded(FOUR);
        check.fine("far 0 7", x, x.far(0, 7), 3);
        check.fine("far 2 0", x, x.far(2, 0), 8);
        check.fine("far 3 255", x, x.far(3, 255), 6);
        check.fine("far 3 129", x, x.far(3, 129), 0);
        check.refused("more than bits", x, x.far(0, 256), 1);
        check.refused("below 0", x, x.far(0, -1), 1);
        check.refused("least", x, x.far(0, Long.MIN_VALUE), 1);
        check.refused("1 is ahead of 2", x, x.far(4, 256), 1);
        check.refused("no such code", x, x.far(4, 255), 2);
        check.refused("code below 0", x, x.far(-1, 0), 2);
    }

    private static void measures(AlikeStore x, int code, int other, int... due) {
        for (int measure = 0; measure < 4; measure++) {
            check.fine("measure " + measure + " of " + code + ", " + other, x, x.measure(code, other, measure),
                    due[measure]);
            check.fine("measure " + measure + " of " + other + ", " + code, x, x.measure(other, code, measure),
                    due[measure]);
        }
    }

    /** Promise 12. */
    private static void measure() {
        AlikeStore x = Check.loaded(FOUR + "code 01101101;code 00111000;");
        measures(x, 0, 3, 2, 2, 8, 1);
        measures(x, 1, 2, 5, 1, 5, 5);
        measures(x, 0, 0, 0, 0, 0, 0);
        measures(x, 0, 4, 5, 3, 7, 2);
        measures(x, 0, 5, 3, 1, 3, 3);
        measures(x, 4, 5, 4, 4, 7, 1);
        check.refused("measure 4", x, x.measure(0, 1, 4), 1);
        check.refused("measure -1", x, x.measure(0, 1, -1), 1);
        check.refused("1 is ahead of 2", x, x.measure(9, 1, 4), 1);
        check.refused("no code", x, x.measure(6, 1, 0), 2);
        check.refused("no other", x, x.measure(1, 6, 0), 2);
        check.refused("other below 0", x, x.measure(1, -1, 0), 2);
    }

    /** Promise 13. */
    private static void find() {
        AlikeStore x = Check.loaded(FOUR + "filter tag = 2;");
        check.fine("find 129", x, x.find(129), 3);
        check.fine("one that doesn't count", x, x.find(0), 0);
        check.refused("find 5", x, x.find(5), 5);
        check.refused("find 256", x, x.find(256), 1);
        check.refused("find -1", x, x.find(-1), 1);
    }

    /** BITS at their edges: 4 and 48. */
    private static void widest() {
        long top = (1L << 48) - 1;
        AlikeStore x = Check.loaded("bits 48;");
        check.fine("the greatest", x, x.add(top), 0);
        check.fine("the least", x, x.add(0), 1);
        check.refused("beyond", x, x.add(top + 1), 1);
        check.fine("code", x, x.code(0), top);
        check.fine("key 0", x, x.key(0, 0), 0xffffff);
        check.fine("key 1", x, x.key(0, 1), 0xffffff);
        check.fine("far", x, x.far(1, top), 48);
        measures(x, 0, 1, 48, 1, 48, 48);
        check.fine("vote", x, x.vote(1), top);
        AlikeStore y = Check.loaded("bits 4;");
        check.fine("15", y, y.add(15), 0);
        check.refused("16", y, y.add(16), 1);
        check.fine("key 1 of 15", y, y.key(0, 1), 3);
    }
}

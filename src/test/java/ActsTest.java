/** Promises 14 to 24: ACTS, what undoes them, and MARKS. */
public final class ActsTest {
    private static final Check check = new Check();
    private static final String FIVE = "bits 4;parts 1 3;code 0000;code 0011;code 1111 tag 5;code 0111 tag 2;"
            + "code 1000;";

    public static void main(String[] args) {
        add();
        strike();
        flip();
        swap();
        tag();
        split();
        merge();
        open();
        undoEach();
        undoTwelve();
        marks();
        refusedChangesNothing();
        keyOfPartThatIsGone();
        check.end("ActsTest");
    }

    /** Promise 14. */
    private static void add() {
        AlikeStore x = Check.loaded(FIVE);
        check.fine("add 5", x, x.add(5), 5);
        check.fine("its code", x, x.code(5), 5);
        check.fine("its tag", x, x.tagOf(5), 0);
        check.refused("add 5 again", x, x.add(5), 4);
        check.refused("add 16", x, x.add(16), 1);
        check.refused("add -1", x, x.add(-1), 1);
        AlikeStore full = new AlikeStore();
        for (int i = 0; i < 32; i++) {
            check.fine("add " + i, full, full.add(i * 3), i);
        }
        check.refused("a 33rd", full, full.add(1), 3);
        check.refused("3 is ahead of 4", full, full.add(0), 3);
        check.refused("1 is ahead of 3", full, full.add(65536), 1);
        AlikeStore struck = Check.loaded(FIVE);
        struck.strike(2);
        struck.add(15);
        check.fine("tag 0, whatever was there", struck, struck.tagOf(4), 0);
    }

    /** Promise 15. */
    private static void strike() {
        AlikeStore x = Check.loaded(FIVE);
        check.fine("strike 1", x, x.strike(1), 4);
        check.fine("numbered less", x, x.code(1), 15);
        check.fine("with its tag", x, x.tagOf(1), 5);
        check.fine("and the next", x, x.code(2), 7);
        check.fine("the last", x, x.code(3), 8);
        check.fine("the first", x, x.code(0), 0);
        check.refused("one less", x, x.code(4), 2);
        check.refused("strike 4", x, x.strike(4), 2);
        check.refused("strike -1", x, x.strike(-1), 2);
        for (int left = 3; left >= 0; left--) {
            check.fine("strike 0", x, x.strike(0), left);
        }
        check.refused("strike of none", x, x.strike(0), 2);
    }

    /** Promise 16. */
    private static void flip() {
        AlikeStore x = Check.loaded(FIVE);
        check.fine("flip 0 2", x, x.flip(0, 2), 1);
        check.fine("turned", x, x.code(0), 4);
        check.fine("flip 0 2 again", x, x.flip(0, 2), 0);
        check.fine("turned back", x, x.code(0), 0);
        check.fine("flip 2 1", x, x.flip(2, 1), 0);
        check.fine("its tag stays", x, x.tagOf(2), 5);
        check.refused("there is such a code", x, x.flip(1, 2), 4);
        check.refused("no bit", x, x.flip(0, 4), 1);
        check.refused("bit below 0", x, x.flip(0, -1), 1);
        check.refused("far bit", x, x.flip(0, 64), 1);
        check.refused("1 is ahead of 2", x, x.flip(5, 4), 1);
        check.refused("no code", x, x.flip(5, 0), 2);
        check.refused("code below 0", x, x.flip(-1, 0), 2);
    }

    /** Promise 17. */
    private static void swap() {
        AlikeStore x = Check.loaded(FIVE + "filter bit 0 = 1;");
        check.fine("bit 0 counts", x, x.many(4), 14);
        check.fine("swap 0 3", x, x.swap(0, 3), 3);
        long[] due = {0, 10, 15, 14, 1};
        for (int i = 0; i < 5; i++) {
            check.fine("code " + i, x, x.code(i), due[i]);
        }
        check.fine("the filter is as it was", x, x.many(4), 20);
        check.fine("swap 3 0", x, x.swap(3, 0), 3);
        check.fine("back again", x, x.code(1), 3);
        check.fine("none another", x, x.swap(0, 1) - x.swap(0, 1), 0);
        check.refused("one bit", x, x.swap(2, 2), 4);
        check.refused("no bit", x, x.swap(4, 0), 1);
        check.refused("no other", x, x.swap(0, 4), 1);
        check.refused("below 0", x, x.swap(-1, 0), 1);
        check.refused("other below 0", x, x.swap(0, -1), 1);
        check.refused("1 is ahead of 4", x, x.swap(4, 4), 1);
        x.flip(0, 2);
        check.fine("the first too", x, x.swap(2, 3), 3);
        check.fine("its bit", x, x.code(0), 8);
        AlikeStore none = new AlikeStore();
        check.fine("of no codes", none, none.swap(0, 15), 0);
        check.fine("an act", none, none.many(5), 1);
    }

    /** Promise 18. */
    private static void tag() {
        AlikeStore x = Check.loaded(FIVE);
        check.fine("tag 2 9", x, x.tag(2, 9), 5);
        check.fine("it has it", x, x.tagOf(2), 9);
        check.fine("tag 2 0", x, x.tag(2, 0), 9);
        check.refused("it is so", x, x.tag(2, 0), 4);
        check.refused("10", x, x.tag(2, 10), 1);
        check.refused("-1", x, x.tag(2, -1), 1);
        check.refused("1 is ahead of 2", x, x.tag(5, 10), 1);
        check.refused("no code", x, x.tag(5, 1), 2);
        check.refused("code below 0", x, x.tag(-1, 1), 2);
    }

    private static void parts(AlikeStore x, int... breadths) {
        check.fine("how many parts", x, x.many(1), breadths.length);
        for (int part = 0; part < breadths.length; part++) {
            check.fine("part " + part, x, x.breadth(part), breadths[part]);
        }
    }

    /** Promise 19. */
    private static void split() {
        AlikeStore x = new AlikeStore();
        check.fine("split 0 1", x, x.split(0, 1), 3);
        parts(x, 1, 7, 8);
        check.refused("as broad as it was", x, x.split(0, 1), 1);
        check.refused("broader", x, x.split(2, 9), 1);
        check.refused("as broad", x, x.split(2, 8), 1);
        check.refused("0", x, x.split(2, 0), 1);
        check.refused("below", x, x.split(2, -1), 1);
        check.refused("1 is ahead of 2", x, x.split(3, 0), 1);
        check.refused("no part", x, x.split(3, 1), 2);
        check.refused("part below 0", x, x.split(-1, 1), 2);
        check.fine("split 2 7", x, x.split(2, 7), 4);
        check.fine("split 1 2", x, x.split(1, 2), 5);
        check.fine("split 2 4", x, x.split(2, 4), 6);
        parts(x, 1, 2, 4, 1, 7, 1);
        check.refused("a seventh", x, x.split(4, 1), 3);
        check.refused("1 is ahead of 3", x, x.split(4, 7), 1);
        check.refused("2 is ahead of 3", x, x.split(6, 1), 2);
    }

    /** Promise 20. */
    private static void merge() {
        AlikeStore x = Check.loaded("bits 48;parts 1 12 11 2 22;");
        check.fine("merge 1", x, x.merge(1), 4);
        parts(x, 1, 23, 2, 22);
        check.refused("23 and 2", x, x.merge(1), 6);
        check.fine("2 and 22", x, x.merge(2), 3);
        check.fine("1 and 23", x, x.merge(0), 2);
        parts(x, 24, 24);
        check.refused("broader than 24", x, x.merge(0), 6);
        check.refused("no next one", x, x.merge(1), 2);
        check.refused("no part", x, x.merge(2), 2);
        check.refused("below 0", x, x.merge(-1), 2);
        check.refused("far", x, x.merge(Integer.MAX_VALUE), 2);
        AlikeStore y = Check.loaded("parts 1 2 3 4 5 1;");
        check.fine("six become five", y, y.merge(0), 5);
        parts(y, 3, 3, 4, 5, 1);
    }

    /** Promise 21. */
    private static void open() {
        AlikeStore x = Check.loaded(FIVE + "filter tag = 2;");
        check.fine("one counts", x, x.many(3), 1);
        check.fine("open", x, x.open(), 0);
        check.fine("no filter", x, x.many(7), 0);
        check.fine("all count", x, x.many(3), 5);
        check.refused("open again", x, x.open(), 5);
    }

    private static void act(AlikeStore x, int which) {
        switch (which) {
            case 0:
                x.add(9);
                break;
            case 1:
                x.strike(1);
                break;
            case 2:
                x.flip(4, 0);
                break;
            case 3:
                x.swap(1, 3);
                break;
            case 4:
                x.tag(0, 4);
                break;
            case 5:
                x.split(1, 2);
                break;
            case 6:
                x.merge(0);
                break;
            case 7:
                x.open();
                break;
            default:
                Check.load(x, "bits 9;parts 4 5;code 111111111 tag 1;");
                break;
        }
    }

    /** Promise 22: each kind of ACT. */
    private static void undoEach() {
        for (int which = 0; which < 9; which++) {
            AlikeStore x = Check.loaded(FIVE + "filter ones > 0;");
            String before = Check.told(x);
            act(x, which);
            check.due("act " + which, x.status(), 0);
            check.due("act " + which + " changes", Check.told(x).equals(before) ? 0 : 1, 1);
            check.fine("acts", x, x.many(5), 2);
            check.fine("undo", x, x.undo(), 1);
            check.due("act " + which + " undone", Check.told(x).equals(before) ? 1 : 0, 1);
        }
        AlikeStore x = Check.loaded(FIVE + "filter ones > 0;");
        String[] states = new String[9];
        for (int which = 0; which < 9; which++) {
            states[which] = Check.told(x);
            act(x, new int[] {7, 5, 6, 4, 3, 2, 1, 0, 8}[which]);
            check.due("act " + which + " of many", x.status(), 0);
        }
        for (int which = 8; which >= 0; which--) {
            x.undo();
            check.due("undone to " + which, Check.told(x).equals(states[which]) ? 1 : 0, 1);
        }
    }

    /** Promise 22: the latest 12. */
    private static void undoTwelve() {
        AlikeStore x = new AlikeStore();
        for (int i = 0; i < 20; i++) {
            x.add(i);
            check.fine("acts", x, x.many(5), Math.min(i + 1, 12));
        }
        for (int left = 11; left >= 0; left--) {
            check.fine("undo", x, x.undo(), left);
            check.fine("codes", x, x.many(2), 9 + left - 1);
        }
        check.refused("no more", x, x.undo(), 5);
        check.fine("eight stay", x, x.many(2), 8);
        x.add(100);
        check.fine("acts anew", x, x.many(5), 1);
        check.fine("undone", x, x.undo(), 0);
    }

    /** Promises 23 and 24. */
    private static void marks() {
        AlikeStore x = Check.loaded(FIVE + "filter ones > 0;");
        String[] states = new String[3];
        for (int i = 0; i < 3; i++) {
            states[i] = Check.told(x);
            check.fine("mark", x, x.mark(), i + 1);
            check.fine("marks", x, x.many(6), i + 1);
            check.fine("no act", x, x.many(5), i + 1);
            act(x, i == 2 ? 8 : i);
        }
        check.refused("a fourth", x, x.mark(), 3);
        for (int i = 2; i >= 0; i--) {
            check.fine("back", x, x.back(), i);
            check.due("taken back to " + i, Check.told(x).equals(states[i]) ? 1 : 0, 1);
            check.fine("nothing to undo", x, x.many(5), 0);
            check.refused("undo", x, x.undo(), 5);
            check.fine("marks", x, x.many(6), i);
        }
        check.refused("no mark", x, x.back(), 5);
        x.add(9);
        x.mark();
        x.undo();
        check.refused("undone past the mark", x, x.find(9), 5);
        check.fine("the mark stays", x, x.many(6), 1);
        check.fine("back", x, x.back(), 0);
        check.fine("as it was at the mark", x, x.find(9), 5);
    }

    /** Section 3: with another STATUS than 0 nothing changes. */
    private static void refusedChangesNothing() {
        AlikeStore x = Check.loaded(FIVE + "filter ones > 0;");
        String before = Check.told(x);
        x.add(16);
        x.add(15);
        x.strike(5);
        x.flip(1, 2);
        x.swap(1, 1);
        x.tag(2, 5);
        x.split(0, 1);
        x.merge(1);
        x.back();
        x.load(1);
        check.due("nothing changed", Check.told(x).equals(before) ? 1 : 0, 1);
        check.fine("no act", x, x.many(5), 1);
    }

    /** A FILTER asks for the KEY of a PART that is no more: 0. */
    private static void keyOfPartThatIsGone() {
        AlikeStore x = Check.loaded(FIVE + "filter key 1 > 2;");
        check.fine("by key", x, x.many(4), 28);
        x.merge(0);
        check.fine("no such part any more", x, x.many(4), 0);
        x.split(0, 1);
        check.fine("there again", x, x.many(4), 28);
        AlikeStore y = Check.loaded(FIVE + "filter key 1 = 0;");
        check.fine("key 0", y, y.many(4), 1);
        y.merge(0);
        check.fine("0 for each", y, y.many(4), 31);
        x.merge(0);
        x.split(0, 2);
        check.fine("another part", x, x.many(4), 4);
    }
}

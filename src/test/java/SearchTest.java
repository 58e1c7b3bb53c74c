/** Promises 25 to 30: by a number and a RADIUS. */
public final class SearchTest {
    private static final Check check = new Check();
    private static final String FOUR = "bits 8;parts 3 5;code 00000000;code 00000111 tag 2;code 11111111;"
            + "code 10000001 tag 2;";
    // For the number 0 the COSTS of PART 0 are 0 1 2 2 4, of PART 1 0 2 3 3 3 3 4, each from budget -1 on.
    private static final int[][] BUDGETS = {{0, -1, 1}, {1, -1, 2}, {2, -1, 2}, {-1, 3, 3}, {-1, 4, 3}, {-1, 5, 4},
        {0, 5, 5}, {2, 4, 5}, {2, 5, 6}};

    public static void main(String[] args) {
        budget();
        budgetsOfManyParts();
        cost();
        near();
        nearOfAll();
        ranked();
        grown();
        apart();
        check.end("SearchTest");
    }

    /** Promise 25. */
    private static void budget() {
        AlikeStore x = Check.loaded(FOUR);
        for (int radius = 0; radius <= 8; radius++) {
            check.fine("budget of part 0 by " + radius, x, x.budget(0, radius, 0), BUDGETS[radius][0]);
            check.fine("budget of part 1 by " + radius, x, x.budget(0, radius, 1), BUDGETS[radius][1]);
            check.fine("cost by " + radius, x, x.near(0, radius, 0), BUDGETS[radius][2]);
        }
        check.refused("radius 9", x, x.budget(0, 9, 0), 1);
        check.refused("radius -1", x, x.budget(0, -1, 0), 1);
        check.refused("number 256", x, x.budget(256, 0, 0), 1);
        check.refused("number -1", x, x.budget(-1, 0, 0), 1);
        check.refused("1 is ahead of 2", x, x.budget(0, 9, 2), 1);
        check.refused("part 2", x, x.budget(0, 0, 2), 2);
        check.refused("part -1", x, x.budget(0, 0, -1), 2);
        AlikeStore one = Check.loaded("bits 5;parts 5;code 00001;");
        for (int radius = 0; radius <= 5; radius++) {
            check.fine("one part", one, one.budget(31, radius, 0), radius);
        }
        AlikeStore none = Check.loaded("bits 8;parts 2 2 4;");
        int[] due = {-1, 0, 4};
        for (int part = 0; part < 3; part++) {
            check.fine("all alike: the least of part 0, then of part 1", none, none.budget(0, 5, part), due[part]);
        }
    }

    private static void budgets(AlikeStore x, int radius, int cost, int... due) {
        for (int part = 0; part < due.length; part++) {
            check.fine("budget by " + radius + " of " + part, x, x.budget(0, radius, part), due[part]);
        }
        check.fine("cost by " + radius, x, x.near(0, radius, 0), cost);
    }

    private static void budgetsOfManyParts() {
        AlikeStore three = Check.loaded("bits 6;parts 2 2 2;code 000000;code 000001;code 000100;code 010000;");
        budgets(three, 0, 3, -1, -1, 0);
        budgets(three, 1, 4, -1, -1, 1);
        budgets(three, 2, 4, -1, -1, 2);
        budgets(three, 3, 7, -1, 0, 2);
        budgets(three, 4, 8, -1, 1, 2);
        budgets(three, 5, 8, -1, 2, 2);
        budgets(three, 6, 11, 0, 2, 2);
        AlikeStore four = Check.loaded("bits 8;parts 2 2 2 2;code 00001100;");
        budgets(four, 0, 0, -1, 0, -1, -1);
        budgets(four, 1, 0, -1, 1, -1, -1);
        budgets(four, 2, 1, -1, -1, -1, 2);
        AlikeStore six = Check.loaded("bits 6;parts 1 1 1 1 1 1;code 000000;code 111111;");
        budgets(six, 0, 1, -1, -1, -1, -1, -1, 0);
        budgets(six, 6, 7, -1, -1, 0, 1, 1, 1);
        AlikeStore full = Check.loaded("bits 48;parts 8 8 8 8 8 8;");
        budgets(full, 48, 0, 3, 8, 8, 8, 8, 8);
        AlikeStore halves = Check.loaded("bits 48;");
        budgets(halves, 48, 0, 23, 24);
    }

    /** Promise 26. */
    private static void cost() {
        AlikeStore x = Check.loaded(FOUR);
        int[][] due = {{0, 1, 2, 2, 4}, {0, 2, 3, 3, 3, 3, 4}};
        for (int part = 0; part < 2; part++) {
            for (int budget = -1; budget + 1 < due[part].length; budget++) {
                check.fine("cost " + part + " " + budget, x, x.cost(0, part, budget), due[part][budget + 1]);
            }
        }
        check.fine("cost for 255", x, x.cost(255, 0, 0), 2);
        check.refused("budget 4 of part 0", x, x.cost(0, 0, 4), 1);
        check.refused("budget -2", x, x.cost(0, 0, -2), 1);
        check.refused("number", x, x.cost(256, 0, 0), 1);
        check.refused("1 is ahead of 2", x, x.cost(0, 2, -2), 1);
        check.refused("part 2", x, x.cost(0, 2, 0), 2);
        check.refused("part -1", x, x.cost(0, -1, 0), 2);
        AlikeStore y = Check.loaded(FOUR + "filter tag = 2;");
        check.fine("of those that count", y, y.cost(0, 1, 5), 2);
    }

    private static void nears(AlikeStore x, long number, int radius, int... due) {
        for (int what = 0; what < 5; what++) {
            check.fine("near " + number + " " + radius + " " + what, x, x.near(number, radius, what), due[what]);
        }
    }

    /** Promise 27. */
    private static void near() {
        AlikeStore x = Check.loaded(FOUR);
        nears(x, 0, 0, 1, 1, 1, 1, 1);
        nears(x, 0, 1, 2, 2, 1, 9, 1);
        nears(x, 0, 3, 3, 3, 3, 11, 11);
        nears(x, 0, 5, 4, 4, 3, 15, 11);
        nears(x, 0, 8, 6, 4, 4, 15, 15);
        AlikeStore y = Check.loaded(FOUR + "filter tag = 2;");
        nears(y, 0, 1, 1, 1, 0, 2, 0);
        nears(y, 0, 8, 3, 2, 2, 10, 10);
        check.refused("what 5", x, x.near(0, 0, 5), 1);
        check.refused("what -1", x, x.near(0, 0, -1), 1);
        check.refused("radius 9", x, x.near(0, 9, 0), 1);
        check.refused("radius -1", x, x.near(0, -1, 0), 1);
        check.refused("number 256", x, x.near(256, 0, 0), 1);
        check.refused("number -1", x, x.near(-1, 0, 0), 1);
    }

    private static void nearOfAll() {
        AlikeStore x = new AlikeStore();
        for (int i = 0; i < 32; i++) {
            x.add(i);
        }
        check.fine("a set of all 32 is -1", x, x.near(0, 16, 4), -1);
        check.fine("candidates too", x, x.near(0, 16, 3), -1);
        check.fine("32 near", x, x.near(0, 5, 2), 32);
        check.fine("like", x, x.like(32, 0), -1);
        check.fine("vote of all", x, x.vote(-1), 0);
    }

    /** Promise 28. */
    private static void ranked() {
        AlikeStore x = Check.loaded("bits 4;code 1100;code 0011;code 0001;code 1000 tag 1;");
        int[] due = {2, 3, 0, 1};
        for (int k = 0; k < 4; k++) {
            check.fine("of alike ones the least, " + k, x, x.ranked(0, k), due[k]);
        }
        check.fine("by another number", x, x.ranked(11, 0), 1);
        check.fine("one that is there", x, x.ranked(12, 0), 0);
        check.refused("no fifth", x, x.ranked(0, 4), 5);
        check.refused("below 0", x, x.ranked(0, -1), 1);
        check.refused("number", x, x.ranked(16, 0), 1);
        check.refused("1 is ahead of 5", x, x.ranked(16, 9), 1);
        AlikeStore y = Check.loaded("bits 4;code 1100;code 0011;code 1000 tag 1;filter tag = 1;");
        check.fine("those that count", y, y.ranked(0, 0), 2);
        check.refused("others don't", y, y.ranked(0, 1), 5);
    }

    /** Promise 29. */
    private static void grown() {
        AlikeStore x = Check.loaded(FOUR);
        int[][] due = {{0, 1}, {2, 5}, {3, 8}, {8, 31}};
        for (int k = 1; k <= 4; k++) {
            check.fine("grown to " + k, x, x.grown(0, k, 0), due[k - 1][0]);
            check.fine("spent to " + k, x, x.grown(0, k, 1), due[k - 1][1]);
        }
        check.refused("fewer count", x, x.grown(0, 5, 0), 6);
        check.refused("far fewer", x, x.grown(0, Integer.MAX_VALUE, 0), 6);
        check.refused("k 0", x, x.grown(0, 0, 0), 1);
        check.refused("what 2", x, x.grown(0, 1, 2), 1);
        check.refused("what -1", x, x.grown(0, 1, -1), 1);
        check.refused("number", x, x.grown(256, 1, 0), 1);
        check.refused("1 is ahead of 6", x, x.grown(0, 9, 2), 1);
    }

    /** Promise 30. */
    private static void apart() {
        AlikeStore x = Check.loaded(FOUR);
        int[] due = {0, 2, 1, 3};
        for (int i = 0; i < 4; i++) {
            check.fine("apart " + i, x, x.apart(0, 8, 32, i), due[i]);
        }
        check.refused("no fifth", x, x.apart(0, 8, 32, 4), 5);
        int[] nearer = {0, 1, 3};
        for (int i = 0; i < 3; i++) {
            check.fine("nearer ones " + i, x, x.apart(0, 3, 3, i), nearer[i]);
        }
        check.refused("no fourth near", x, x.apart(0, 3, 4, 3), 5);
        check.refused("k at most", x, x.apart(0, 8, 2, 2), 5);
        check.fine("k 1", x, x.apart(255, 8, 1, 0), 2);
        check.refused("none near", x, x.apart(1, 0, 1, 0), 5);
        AlikeStore y = Check.loaded("bits 8;code 00011101;code 00000110;code 00000001;");
        int[] ranked = {2, 1, 0};
        for (int i = 0; i < 3; i++) {
            check.fine("of alike ones the first ranked " + i, y, y.apart(0, 8, 3, i), ranked[i]);
        }
        AlikeStore wide = Check.loaded("bits 48;");
        wide.add((1L << 47) - 1);
        wide.add((1L << 48) - 1);
        wide.add(0);
        check.fine("the first", wide, wide.apart(0, 48, 3, 0), 2);
        check.fine("48 is more than 47", wide, wide.apart(0, 48, 3, 1), 1);
        check.refused("k 0", x, x.apart(0, 8, 0, 0), 1);
        check.refused("k 33", x, x.apart(0, 8, 33, 0), 1);
        check.refused("i -1", x, x.apart(0, 8, 1, -1), 1);
        check.refused("radius 9", x, x.apart(0, 9, 1, 0), 1);
        check.refused("radius -1", x, x.apart(0, -1, 1, 0), 1);
        check.refused("number", x, x.apart(256, 8, 1, 0), 1);
    }
}

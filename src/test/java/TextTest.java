/** Promises 1 to 5: a new object, the tape, and the TEXT of a STORE with its FAULTS. */
public final class TextTest {
    private static final String ZEROS = "0000000000000000";
    private static final Check check = new Check();

    public static void main(String[] args) {
        newObject();
        status();
        feed();
        load();
        loadKeepsTheOldOne();
        fault();
        strange();
        misplaced();
        misshapen();
        impossible();
        twice();
        beyond();
        readable();
        filters();
        check.end("TextTest");
    }

    /** Promise 1. */
    private static void newObject() {
        AlikeStore x = new AlikeStore();
        check.due("a new object's status", x.status(), 0);
        int[] many = {16, 2, 0, 0, 0, 0, 0, 0};
        for (int what = 0; what < 8; what++) {
            check.fine("a new object's many " + what, x, x.many(what), many[what]);
        }
        check.fine("breadth of part 0", x, x.breadth(0), 8);
        check.fine("breadth of part 1", x, x.breadth(1), 8);
        check.refused("no third part", x, x.breadth(2), 2);
        check.refused("an empty tape", x, x.load(1), 1);
        check.refused("nothing to undo", x, x.undo(), 5);
        check.refused("no mark", x, x.back(), 5);
        check.refused("no filter", x, x.open(), 5);
        check.due("NONE", AlikeStore.NONE, -1);
    }

    /** Promise 2. */
    private static void status() {
        AlikeStore x = new AlikeStore();
        x.code(0);
        check.due("status of the latest", x.status(), 2);
        check.due("status again", x.status(), 2);
        x.feed(0, 0, 0, 0, 0);
        check.due("feed has none", x.status(), 2);
        x.fault(0);
        check.due("fault has none", x.status(), 2);
        x.many(0);
        check.due("a call that went well", x.status(), 0);
    }

    /** Promise 3. */
    private static void feed() {
        AlikeStore x = new AlikeStore();
        check.due("bits 4;code 1000;co", x.feed(0x62697473, 0x20343b63, 0x6f646520, 0x31303030, 0x3b636f64), 20);
        check.due("code 0001;", x.feed(0x65203030, 0x30313b20, 0x20202020, 0x0a202020, 0x20ffffff), 40);
        check.fine("fed highest byte ahead", x, x.load(37), 2);
        check.fine("first code", x, x.code(0), 8);
        check.fine("second code", x, x.code(1), 1);
        for (int i = 1; i <= 45; i++) {
            check.due("feed " + i, x.feed(0x20202020, 0x20202020, 0x20202020, 0x20202020, 0x20202020), 20 * i);
        }
        check.due("more than 900", x.feed(0, 0, 0, 0, 0), -1);
        check.due("a status that stays", x.status(), 0);
        check.fine("900 blanks", x, x.load(900), 0);
        check.due("empty again", x.feed(0, 0, 0, 0, 0), 20);
    }

    /** Promise 4. */
    private static void load() {
        AlikeStore x = new AlikeStore();
        check.fine("an empty text", x, x.load(0), 0);
        check.fine("it is an act", x, x.many(5), 1);
        check.refused("below 0", x, x.load(-1), 1);
        Check.feed(x, "bits 5;code 00001;code 10000 tag 7;code 11111;");
        check.refused("more than there are", x, x.load(61), 1);
        check.refused("far more", x, x.load(Integer.MAX_VALUE), 1);
        check.fine("the tape stayed", x, x.load(35), 2);
        check.fine("bits", x, x.many(0), 5);
        check.fine("the greater half", x, x.breadth(0), 3);
        check.fine("the other half", x, x.breadth(1), 2);
        check.fine("its code", x, x.code(1), 16);
        check.fine("its tag", x, x.tagOf(1), 7);
        check.fine("no tag", x, x.tagOf(0), 0);
        check.refused("the rest is gone", x, x.load(1), 1);
        check.fine("a text anew", x, Check.load(x, "code " + ZEROS + ";"), 1);
        check.fine("16 bits without", x, x.many(0), 16);
        check.fine("halved", x, x.breadth(0), 8);
        check.fine("with a filter", x, Check.load(x, "filter ones > 3 or ones = 0;code " + ZEROS + ";"), 1);
        check.fine("it counts", x, x.many(3), 1);
        check.fine("another filter", x, Check.load(x, "filter ones > 1;code " + ZEROS + ";"), 1);
        check.fine("it doesn't count", x, x.many(3), 0);
        check.fine("without a filter", x, Check.load(x, "code " + ZEROS + ";"), 1);
        check.fine("none is left", x, x.many(7), 0);
        check.fine("parts", x, Check.load(x, "parts 1 2 3 4 5 1;"), 0);
        check.fine("how many", x, x.many(1), 6);
        for (int part = 0; part < 6; part++) {
            check.fine("breadth " + part, x, x.breadth(part), part < 5 ? part + 1 : 1);
        }
    }

    private static void loadKeepsTheOldOne() {
        AlikeStore x = Check.loaded("bits 4;parts 1 3;code 0001 tag 3;filter tag = 3;");
        check.refused("a fault", x, Check.load(x, "bits 6;parts 2 4;code 000000;code 111111;filter tag = 2"), 9);
        check.fine("bits stay", x, x.many(0), 4);
        check.fine("codes stay", x, x.many(2), 1);
        check.fine("code stays", x, x.code(0), 1);
        check.fine("tag stays", x, x.tagOf(0), 3);
        check.fine("parts stay", x, x.breadth(1), 3);
        check.fine("filter stays", x, x.many(4), 1);
        check.fine("no act", x, x.many(5), 1);
        check.refused("the tape is empty", x, x.load(1), 1);
    }

    /** Promise 5. */
    private static void fault() {
        AlikeStore x = new AlikeStore();
        check.due("ahead of any", x.fault(0), -1);
        check.due("its place", x.fault(1), -1);
        x.load(1);
        check.due("STATUS 1 tells nothing", x.fault(0), -1);
        Check.load(x, "bits 4;");
        check.due("without one", x.fault(0), 0);
        check.due("no place", x.fault(1), -1);
        Check.load(x, "bits 4;code 00;");
        check.due("a fault", x.fault(0), 3);
        check.due("its place", x.fault(1), 12);
        check.due("others", x.fault(2), -1);
        check.due("below", x.fault(-1), -1);
        x.load(1);
        x.undo();
        x.many(9);
        check.due("it stays", x.fault(0), 3);
        check.due("its place stays", x.fault(1), 12);
        x.load(0);
        check.due("none again", x.fault(0), 0);
        check.due("nowhere again", x.fault(1), -1);
    }

    private static void fault(String text, int kind, int place) {
        check.faulty(text, kind, place);
    }

    private static void strange() {
        fault("#", 1, 0);
        fault("Bits 8;", 1, 0);
        fault("bits 8;\t", 1, 7);
        fault("bits 8;\rcode", 1, 7);
        fault("bits 8;\u00e9", 1, 7);
        fault("bits 8;\0", 1, 7);
        fault("bits -8;", 1, 5);
        fault("code " + ZEROS + ZEROS + ZEROS + "0;", 1, 5);
        fault(ZEROS + ZEROS + ZEROS + "0", 1, 0);
        fault("code " + ZEROS + " {", 1, 22);
        fault("filter [[[[[[{", 1, 13);
        fault("code ( #", 1, 5);
    }

    private static void misplaced() {
        fault("bits", 2, 4);
        fault("bits  \n", 2, 7);
        fault("bits 8", 2, 6);
        fault("bits ;", 2, 5);
        fault("bits x;", 2, 5);
        fault("bits 8 9;", 2, 7);
        fault("bits 8;bits 8;", 2, 7);
        fault("parts 8 8;bits 16;", 2, 10);
        fault("parts 8 8;parts 8 8;", 2, 10);
        fault("code " + ZEROS + ";bits 16;", 2, 22);
        fault("code " + ZEROS + ";parts 8 8;", 2, 22);
        fault("parts ;", 2, 6);
        fault("parts 8 8 x;", 2, 10);
        fault("parts 8 7 x;", 2, 10);
        fault("parts 8 8", 2, 9);
        fault("codes " + ZEROS + ";", 2, 0);
        fault("cod", 2, 0);
        fault("xode " + ZEROS + ";", 2, 0);
        fault("zz", 2, 0);
        fault("az", 2, 0);
        fault("; ", 2, 0);
        fault(ZEROS, 2, 0);
        fault("code x;", 2, 5);
        fault("code " + ZEROS, 2, 21);
        fault("code " + ZEROS + " 5;", 2, 22);
        fault("code " + ZEROS + " tag;", 2, 25);
        fault("code " + ZEROS + " tag 1 tag 1;", 2, 28);
        fault("filter;", 2, 6);
        fault("filter", 2, 6);
        fault("filter ones 1;", 2, 12);
        fault("filter ones > x;", 2, 14);
        fault("filter ones ; 1;", 2, 12);
        fault("filter 5 < 6;", 2, 7);
        fault("filter bits = 1;", 2, 7);
        fault("filter bit = 1;", 2, 11);
        fault("filter bit 1 2;", 2, 13);
        fault("filter key x = 1;", 2, 11);
        fault("filter far < 1;", 2, 11);
        fault("filter tag = 1", 2, 14);
        fault("filter tag = 1]", 2, 14);
        fault("filter [tag = 1;", 2, 15);
        fault("filter [];", 2, 8);
        fault("filter tag = 1 or;", 2, 17);
        fault("filter tag = 1 and or tag = 1;", 2, 19);
        fault("filter tag = 1 not tag = 2;", 2, 15);
        fault("filter tag = 1andtag = 1;", 2, 14);
        fault("filter not;", 2, 10);
    }

    private static void misshapen() {
        fault("bits 000000008;", 3, 5);
        fault("parts 8 000000008;", 3, 8);
        fault("bits 48;parts 1 1 1 1 1 1 000000042;", 3, 26);
        fault("bits 8;code 0000000;", 3, 12);
        fault("bits 8;code 000000000;", 3, 12);
        fault("bits 8;code 00000002;", 3, 12);
        fault("bits 8;code 20000000;", 3, 12);
        fault("code " + ZEROS + ZEROS + ZEROS + ";", 3, 5);
        fault("code " + ZEROS + " tag 000000001;", 3, 26);
        fault("filter ones < 100000000;", 3, 14);
        fault("filter bit 000000001 = 1;", 3, 11);
        fault("filter key 000000001 = 1;", 3, 11);
        fault("filter far 01 = 1;", 3, 11);
        fault("filter far 0000000000000003 = 1;", 3, 11);
    }

    private static void impossible() {
        fault("bits 3;", 4, 5);
        fault("bits 49;", 4, 5);
        fault("bits 99999999;", 4, 5);
        fault("parts 0 16;", 4, 6);
        fault("bits 25;parts 25;", 4, 14);
        fault("parts 8 9;", 4, 8);
        fault("parts 8 8 1;", 4, 10);
        fault("bits 8;parts 24;", 4, 13);
        fault("parts 8 7;", 4, 9);
        fault("parts 15 ;", 4, 9);
        fault("bits 48;parts 1 1 1 1 1 1 42;", 4, 26);
        fault("bits 6;parts 1 1 1 1 1 1 1;", 4, 25);
        fault("code " + ZEROS + " tag 10;", 4, 26);
        fault("filter bit 16 = 1;", 4, 11);
        fault("bits 4;filter bit 4 = 1;", 4, 18);
        fault("filter key 2 = 1;", 4, 11);
        fault("parts 4 4 4 4;filter key 4 = 1;", 4, 25);
    }

    private static void twice() {
        fault("bits 4;code 0001;code 0010;code 0001;", 5, 32);
        fault("bits 4;code 0001;code 0001 #", 5, 22);
        fault("bits 4;code 0001 tag 1;code 0001 tag 2;", 5, 28);
        fault("filter ones > 1;filter ones > 1;", 5, 16);
        fault("filter ones > 1;filter", 5, 16);
        fault("filter ones > 1;code " + ZEROS + ";filter #", 5, 38);
    }

    private static String codes(int count) {
        StringBuilder text = new StringBuilder("bits 8;");
        for (int i = 0; i < count; i++) {
            String bits = Integer.toBinaryString(256 + i).substring(1);
            text.append("code ").append(bits).append(';');
        }
        return text.toString();
    }

    private static void beyond() {
        fault(codes(33), 6, 455);
        fault(codes(32) + "code #", 6, 455);
        fault(codes(32) + "code 00000000;", 6, 455);
        fault("filter not not not not not not not ones > 1;", 6, 31);
        fault("filter [[[[[[[ones > 1]]]]]]];", 6, 13);
        fault("filter not [not [not [not ones > 1]]];", 6, 22);
        fault("filter [ones > 1 or [ones > 1 and [not [not not [", 6, 44);
        fault("filter ones > 1 or [[[[[[not", 6, 25);
    }

    private static void readable(String text, int codes) {
        check.readable(text, codes);
    }

    private static void readable() {
        readable("", 0);
        readable(" \n \n", 0);
        readable("bits4;parts1 3;code0000;code0001tag0;", 2);
        readable("bits\n00000008 ;\ncode 00000000 tag 00000009 ; ", 1);
        readable("bits 48;", 0);
        readable("bits 48;parts 24 24;code " + ZEROS + ZEROS + ZEROS + ";", 1);
        readable("bits 48;parts 8 8 8 8 8 8;", 0);
        readable("bits 24;parts 24;", 0);
        readable("parts 8 8;", 0);
        readable(codes(32), 32);
        readable("filter not not not not not not ones > 99999999;", 0);
        readable("filter [[[[[[ones>1]]]]]]and[[[[[[ones>1]]]]]]or not not not not not not ones>1;", 0);
        readable("filter ones=1and tag=1or number=1;", 0);
        readable("filter bit 15 = 1 or key 1 = 0 or far " + ZEROS + " > 3;code " + ZEROS + ";", 1);
    }

    private static void counts(String test, int set) {
        AlikeStore x = Check.loaded("bits 4;parts 1 3;filter " + test
                + ";code 0000;code 0011;code 1111 tag 5;code 0111 tag 2;code 1000;");
        check.fine("filter " + test, x, x.many(4), set);
        check.fine("how many for " + test, x, x.many(3), Integer.bitCount(set));
    }

    /** FILTER: what counts by each VALUE, and how not, and, or bind. */
    private static void filters() {
        counts("ones > 1", 14);
        counts("ones = 0", 1);
        counts("ones < 2", 17);
        counts("tag = 5", 4);
        counts("tag > 0", 12);
        counts("tag < 5", 27);
        counts("number < 2", 3);
        counts("number = 4", 16);
        counts("number = 8", 0);
        counts("bit 3 = 1", 20);
        counts("bit 0 < 1", 17);
        counts("key 0 = 1", 14);
        counts("key 1 > 2", 28);
        counts("far 0111 < 2", 14);
        counts("far 0001 = 2", 24);
        counts("not ones > 1", 17);
        counts("not not tag = 5", 4);
        counts("number = 1 or tag = 5 and ones = 0", 2);
        counts("[number = 1 or tag = 5] and ones = 0", 0);
        counts("ones = 0 and tag = 5 or number = 1", 2);
        counts("not tag = 5 and ones > 1", 10);
        counts("not [tag = 5 and ones > 1]", 27);
        counts("number = 0 or number = 2 or number = 4", 21);
        counts("number > 0 and number < 4 and ones > 2", 12);
        counts("ones < 99999999", 31);
        longFilters();
    }

    /** A TEXT full of FACTS, again and again: each stands for itself. */
    private static void longFilters() {
        AlikeStore x = new AlikeStore();
        StringBuilder chain = new StringBuilder("bits 4;code 0001;code 0011;filter ");
        for (int i = 0; i < 90; i++) {
            chain.append("tag=9or ");
        }
        for (int ones = 1; ones <= 4; ones++) {
            check.fine("a long filter", x, Check.load(x, chain + "not not ones = " + ones + ";"), 2);
            check.fine("by its last fact", x, x.many(4), ones < 3 ? ones : 0);
        }
        String nots = "filter not [not [not [ones=1 or tag=9 and tag=8]or tag=9 and tag=8]or tag=9 and tag=8]";
        check.fine("wrapped", x, Check.load(x, "bits 4;code 0001;code 0011;" + nots + ";"), 2);
        check.fine("three nots", x, x.many(4), 2);
    }
}

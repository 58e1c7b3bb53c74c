/** Promises 1 to 5 and section 1 at their edges: each method holds one sentence of the document against them. */
public final class EdgesOfTextTest {
    private static final Check check = new Check();
    private static final String ZEROS = "0000000000000000";
    private static final int BLANKS = 0x20202020;

    public static void main(String[] args) {
        newObject();
        statusOfTheLatest();
        feedFillsTheTape();
        feedHighestFirst();
        loadTakesTheFirst();
        loadEmptiesTheTape();
        faultOfTheLatestLoad();
        bitsFrom4To48();
        halves();
        partsFrom1To6();
        breadthsFrom1To24();
        breadthsTogether();
        codesAtMost32();
        tagsFrom0To9();
        textOf900Bytes();
        everyByte();
        everyByteInside();
        tokensAsLongAsTheyGo();
        digitsAtMost48();
        theEnd();
        everyPrefix();
        behindAnotherLine();
        numbersOf8Digits();
        binariesOfJustBits();
        noSuchBitOrKey();
        thereAlready();
        withinOneAnother();
        theFirstAlongTheText();
        ofOneTokenTheLeast();
        filterValues();
        filterBounds();
        filterOfAKey();
        filterNests();
        filterOf900Bytes();
        check.end("EdgesOfTextTest");
    }

    private static String times(int count, String piece) {
        return piece.repeat(count);
    }

    private static String binary(int number, int digits) {
        return Integer.toBinaryString(1 << digits | number).substring(1);
    }

    private static String codes(int count, int digits) {
        StringBuilder text = new StringBuilder();
        for (int i = 0; i < count; i++) {
            text.append("code ").append(binary(i, digits)).append(';');
        }
        return text.toString();
    }

    // ---- Promises 1 to 5

    private static void newObject() {
        AlikeStore x = new AlikeStore();
        check.due("STATUS of a new object", x.status(), 0);
        check.due("no load() yet", x.fault(0), -1);
        check.due("no place yet", x.fault(1), -1);
        check.fine("the greatest of 16 BITS", x, x.find(65535) + 1 + x.many(3), 0);
        AlikeStore y = new AlikeStore();
        check.refused("not there, but it can be", y, y.find(65535), 5);
        check.refused("17 BITS", y, y.find(65536), 1);
        check.refused("a third PART", y, y.breadth(2), 2);
        check.refused("a CODE", y, y.code(0), 2);
        check.refused("a FILTER", y, y.open(), 5);
        check.refused("a MARK", y, y.back(), 5);
        check.refused("an ACT", y, y.undo(), 5);
        check.refused("a byte", y, y.load(1), 1);
        check.due("the tape holds all 900", lastFeed(y), 900);
        AlikeStore one = new AlikeStore();
        one.add(3);
        one.mark();
        check.refused("each object its own", y, y.code(0), 2);
        check.fine("and its own MARKS", y, y.many(6), 0);
    }

    private static int lastFeed(AlikeStore x) {
        int last = 0;
        for (int i = 0; i < 45; i++) {
            last = x.feed(BLANKS, BLANKS, BLANKS, BLANKS, BLANKS);
        }
        return last;
    }

    private static void statusOfTheLatest() {
        AlikeStore x = new AlikeStore();
        x.back();
        for (int i = 0; i < 3; i++) {
            check.due("status() has none", x.status(), 5);
        }
        lastFeed(x);
        check.due("feed() has none", x.status(), 5);
        check.due("a feed() too many", x.feed(0, 0, 0, 0, 0), -1);
        check.due("nor then", x.status(), 5);
        check.due("a fault() of nothing", x.fault(2), -1);
        check.due("nor fault()", x.status(), 5);
        x.strike(0);
        check.due("the latest, not the first", x.status(), 2);
        x.telling();
        check.due("0 again", x.status(), 0);
    }

    private static void feedFillsTheTape() {
        AlikeStore x = new AlikeStore();
        for (int i = 1; i <= 44; i++) {
            check.due("feed " + i, x.feed(BLANKS, BLANKS, BLANKS, BLANKS, BLANKS), 20 * i);
        }
        check.due("to the last byte", x.feed(BLANKS, BLANKS, BLANKS, BLANKS, 0x20202078), 900);
        for (int i = 0; i < 3; i++) {
            check.due("NONE if there would be more", x.feed(-1, -1, -1, -1, -1), -1);
        }
        check.refused("what was refused is not there", x, x.load(901), 1);
        check.refused("all 900 are", x, x.load(900), 9);
        check.due("as they were: no TOKEN at fault", x.fault(0), 2);
        check.due("but the last byte", x.fault(1), 899);
        check.due("from the start again", x.feed(0, 0, 0, 0, 0), 20);
    }

    private static void feedHighestFirst() {
        int[] place = {0, 1, 2, 3};
        int[] four = {0x80202020, 0x20ff2020, 0x20208020, 0x202020ff};
        for (int i = 0; i < 4; i++) {
            for (int at = 0; at < 5; at++) {
                AlikeStore x = new AlikeStore();
                int[] a = {BLANKS, BLANKS, BLANKS, BLANKS, BLANKS};
                a[at] = four[i];
                x.feed(a[0], a[1], a[2], a[3], a[4]);
                check.refused("a byte of 128 and more", x, x.load(20), 9);
                check.due("begins no TOKEN", x.fault(0), 1);
                check.due("where it was fed", x.fault(1), 4 * at + place[i]);
            }
        }
    }

    private static void loadTakesTheFirst() {
        AlikeStore x = new AlikeStore();
        Check.feed(x, "code " + ZEROS + ";#");
        for (int n : new int[] {-1, Integer.MIN_VALUE, 41, 900, Integer.MAX_VALUE}) {
            check.refused("load " + n + " of 40", x, x.load(n), 1);
        }
        check.fine("up to the ;", x, x.load(22), 1);
        Check.feed(x, "code " + ZEROS + ";#");
        check.refused("one byte more", x, x.load(23), 9);
        check.due("a FAULT there", x.fault(1), 22);
        Check.feed(x, times(40, " "));
        check.fine("as many as there are", x, x.load(40), 0);
        check.fine("none of none", x, x.load(0), 0);
        check.refused("one of none", x, x.load(1), 1);
        AlikeStore y = new AlikeStore();
        Check.feed(y, "#");
        check.fine("none of some", y, y.load(0), 0);
        check.refused("and all are gone", y, y.load(1), 1);
    }

    private static void loadEmptiesTheTape() {
        AlikeStore x = new AlikeStore();
        Check.feed(x, times(60, " "));
        check.refused("STATUS 1", x, x.load(61), 1);
        check.due("leaves it", x.feed(BLANKS, BLANKS, BLANKS, BLANKS, BLANKS), 80);
        check.fine("STATUS 0", x, x.load(5), 0);
        check.due("empties it", x.feed(BLANKS, BLANKS, BLANKS, BLANKS, 0x78787878), 20);
        check.refused("STATUS 9", x, x.load(20), 9);
        check.due("empties it too", x.feed(BLANKS, BLANKS, BLANKS, BLANKS, BLANKS), 20);
        check.fine("no ACT but two", x, x.many(5), 1);
        Check.feed(x, times(20, " "));
        x.undo();
        check.due("undo() leaves it", x.feed(0, 0, 0, 0, 0), 60);
    }

    private static void faultOfTheLatestLoad() {
        AlikeStore x = new AlikeStore();
        x.load(1);
        x.load(-1);
        check.due("ahead of any", x.fault(0), -1);
        check.due("its place ahead of any", x.fault(1), -1);
        Check.load(x, "#");
        check.due("kind", x.fault(0), 1);
        check.due("place 0 is one", x.fault(1), 0);
        for (int what : new int[] {-1, 2, Integer.MIN_VALUE, Integer.MAX_VALUE}) {
            check.due("NONE for " + what, x.fault(what), -1);
        }
        x.load(5);
        check.due("STATUS 1 is not it", x.fault(0), 1);
        Check.load(x, " x");
        check.due("the latest: kind", x.fault(0), 2);
        check.due("the latest: place", x.fault(1), 1);
        x.load(0);
        check.due("0 without one", x.fault(0), 0);
        check.due("NONE without", x.fault(1), -1);
        for (int what : new int[] {-1, 2, Integer.MIN_VALUE, Integer.MAX_VALUE}) {
            check.due("NONE for " + what + ", without", x.fault(what), -1);
        }
    }

    // ---- Section 1: BITS, PARTS, CODES, TAGS

    private static void bitsFrom4To48() {
        for (int bits = 0; bits <= 60; bits++) {
            if (bits >= 4 && bits <= 48) {
                AlikeStore x = check.readable("bits " + bits + ";", 0);
                check.fine("BITS", x, x.many(0), bits);
            } else {
                check.faulty("bits " + bits + ";", 4, 5);
            }
        }
        check.fine("16 without", check.readable("", 0), check.readable("", 0).many(0), 16);
        AlikeStore x = check.readable("bits 8;", 0);
        check.fine("16 without, whatever was there", x, Check.load(x, "parts 8 8;"), 0);
        check.fine("BITS then", x, x.many(0), 16);
    }

    private static void halves() {
        for (int bits = 4; bits <= 48; bits++) {
            AlikeStore x = check.readable("bits " + bits + ";", 0);
            check.fine("two PARTS", x, x.many(1), 2);
            check.fine("the greater half of " + bits, x, x.breadth(0), (bits + 1) / 2);
            check.fine("the other half of " + bits, x, x.breadth(1), bits / 2);
            check.refused("no third", x, x.breadth(2), 2);
        }
        AlikeStore x = check.readable("parts 1 2 3 4 5 1;", 0);
        Check.load(x, "bits 5;");
        check.fine("two, whatever was there", x, x.many(1), 2);
        check.fine("3 of 5", x, x.breadth(0), 3);
    }

    private static void partsFrom1To6() {
        check.faulty("parts;", 2, 5);
        check.faulty("parts ;", 2, 6);
        for (int parts = 1; parts <= 6; parts++) {
            AlikeStore x = check.readable("bits 12;parts" + times(parts - 1, " 1") + " " + (13 - parts) + ";", 0);
            check.fine("PARTS", x, x.many(1), parts);
            check.fine("the last", x, x.breadth(parts - 1), 13 - parts);
        }
        check.faulty("bits 12;parts 1 1 1 1 1 1 6;", 4, 26);
        check.faulty("bits 12;parts 2 2 2 2 2 2 1;", 4, 26);
        check.faulty("bits 12;parts 2 2 2 2 2 2 0;", 4, 26);
        check.faulty("bits 12;parts 1 1 1 1 1 1;", 4, 25);
        check.faulty("bits 12;parts 1 1 1 1 1 1 1 1;", 4, 26);
    }

    private static void breadthsFrom1To24() {
        check.readable("bits 4;parts 1 3;", 0);
        check.readable("bits 4;parts 3 1;", 0);
        check.readable("bits 24;parts 24;", 0);
        check.readable("bits 25;parts 24 1;", 0);
        check.readable("bits 25;parts 1 24;", 0);
        check.readable("bits 48;parts 24 24;", 0);
        check.faulty("bits 4;parts 0 4;", 4, 13);
        check.faulty("bits 4;parts 4 0;", 4, 15);
        check.faulty("bits 25;parts 25;", 4, 14);
        check.faulty("bits 48;parts 25 23;", 4, 14);
        check.faulty("bits 48;parts 23 25;", 4, 17);
        check.faulty("bits 48;parts 48;", 4, 14);
        check.faulty("bits 48;parts 99999999;", 4, 14);
    }

    private static void breadthsTogether() {
        check.readable("parts 16;", 0);
        check.readable("parts 15 1;", 0);
        check.faulty("parts 15;", 4, 8);
        check.faulty("parts 17;", 4, 6);
        check.faulty("parts 8 7;", 4, 9);
        check.faulty("parts 8 7 \n ;", 4, 12);
        check.faulty("parts 8 9;", 4, 8);
        check.faulty("parts 16 1;", 4, 9);
        check.faulty("bits 48;parts 24 23;", 4, 19);
        check.faulty("bits 48;parts 24 23 2;", 4, 20);
        check.faulty("parts 8 7 code", 2, 10);
        check.faulty("parts 8 7", 2, 9);
        check.faulty("parts 8 7 [", 2, 10);
    }

    private static void codesAtMost32() {
        check.readable("bits 5;" + codes(31, 5), 31);
        AlikeStore x = check.readable("bits 5;" + codes(32, 5), 32);
        for (int code = 0; code < 32; code++) {
            check.fine("numbered as they came", x, x.code(code), code);
        }
        check.refused("no 33rd", x, x.code(32), 2);
        check.readable("bits 5;" + codes(32, 5) + "filter ones < 3;", 32);
        check.faulty("bits 6;" + codes(33, 6), 6, 391);
        check.faulty("bits 6;" + codes(32, 6) + "filter ones < 3; code", 6, 408);
        check.faulty("bits 6;" + codes(32, 6) + "cod", 2, 391);
        AlikeStore y = check.readable("bits 5;" + codes(32, 5), 32);
        check.fine("numbered anew", y, Check.load(y, codes(1, 16)), 1);
        check.refused("the others are gone", y, y.code(1), 2);
    }

    private static void tagsFrom0To9() {
        for (int tag = 0; tag <= 12; tag++) {
            String text = "bits 4;code 0000 tag " + tag + ";code 1111;";
            if (tag <= 9) {
                AlikeStore x = check.readable(text, 2);
                check.fine("TAG", x, x.tagOf(0), tag);
                check.fine("0 without", x, x.tagOf(1), 0);
            } else {
                check.faulty(text, 4, 21);
            }
        }
        check.faulty("bits 4;code 0000 tag 99999999;", 4, 21);
        check.faulty("bits 4;code 0000 tag 0 tag 0;", 2, 23);
    }

    // ---- Section 1: TEXTS and TOKENS

    private static void textOf900Bytes() {
        String full = "code " + times(878, " ") + ZEROS + ";";
        check.due("900 bytes", full.length(), 900);
        check.readable(full, 1);
        AlikeStore x = new AlikeStore();
        Check.feed(x, full);
        check.refused("899 of them", x, x.load(899), 9);
        check.due("the end is where they end", x.fault(1), 899);
        check.readable(times(900, "\n"), 0);
        check.faulty(times(899, " ") + "#", 1, 899);
        check.faulty(times(899, " ") + ";", 2, 899);
        check.faulty("bits 4;code " + times(888, " "), 2, 900);
        check.faulty(times(900, "a"), 2, 0);
        check.faulty(times(900, "0"), 1, 0);
        check.faulty("filter " + times(893, "["), 6, 13);
        check.faulty("filter " + times(223, "not "), 6, 31);
    }

    private static boolean beginsToken(int sign) {
        return sign >= 'a' && sign <= 'z' || sign >= '0' && sign <= '9' || "<=>[];".indexOf(sign) >= 0;
    }

    private static void everyByte() {
        for (int sign = 0; sign < 256; sign++) {
            String text = " " + (char) sign;
            if (sign == 10 || sign == 32) {
                check.readable(text, 0);
            } else {
                check.faulty(text, beginsToken(sign) ? 2 : 1, 1);
            }
        }
    }

    private static void everyByteInside() {
        for (int sign = 0; sign < 256; sign++) {
            String text = "bits 8" + (char) sign + ";";
            if (sign == 10 || sign == 32) {
                check.readable(text, 0);
            } else if (sign >= '0' && sign <= '9') {
                check.faulty(text, 4, 5);
            } else if (sign == ';') {
                check.faulty(text, 2, 7);
            } else {
                check.faulty(text, beginsToken(sign) ? 2 : 1, 6);
            }
        }
    }

    private static void tokensAsLongAsTheyGo() {
        check.readable("bits4;parts2 2;code0001tag1;filter[ones>1]and bit0=1or not far0001<1;", 1);
        check.readable("\n bits\n4\n;\n\n", 0);
        check.faulty("bit s4;", 2, 0);
        check.faulty("bits 16 6;", 2, 8);
        check.faulty("bits 1 6;", 4, 5);
        check.faulty("bits 4;code 00 01;", 3, 12);
        check.faulty("bits 4;code0001tag1code", 2, 19);
        check.faulty("bits 4;codecode", 2, 7);
        check.faulty("bits 4;parts 2 2;code 0001tag;", 2, 29);
        check.faulty("filterones > 1;", 2, 0);
        check.faulty("filter notones > 1;", 2, 7);
        check.faulty("filter ones > 1orones > 1;", 2, 15);
        check.faulty("filter ones >> 1;", 2, 13);
        check.faulty("filter ones <= 1;", 2, 13);
        check.faulty("filter ones == 1;", 2, 13);
        check.faulty("bits 8;;", 2, 7);
        check.faulty("bitS 8;", 2, 0);
        check.faulty("bitsS 8;", 1, 4);
    }

    private static void digitsAtMost48() {
        String digits = times(48, "0");
        check.readable("bits 48;code " + digits + ";", 1);
        check.faulty("bits 48;code " + digits + "0;", 1, 13);
        check.faulty("bits 48;code " + digits.substring(1) + ";", 3, 13);
        check.faulty("bits " + digits + ";", 3, 5);
        check.faulty("bits " + digits + "4;", 1, 5);
        check.faulty("bits 8;parts 8" + digits + ";", 1, 13);
        check.faulty(digits, 2, 0);
        check.faulty(" " + digits + "0", 1, 1);
        check.faulty("filter ones > " + digits + "0;", 1, 14);
        check.faulty("filter far " + digits + "0 > 1;", 1, 11);
    }

    private static void theEnd() {
        check.faulty("bits", 2, 4);
        check.faulty("bits   ", 2, 7);
        check.faulty("bits 4;code 0000", 2, 16);
        check.faulty("bits 4;code 0000\n\n", 2, 18);
        check.faulty("filter", 2, 6);
        check.faulty("filter [", 2, 8);
        check.faulty("filter [ones > 1", 2, 16);
        check.faulty("filter ones > 1]", 2, 15);
        check.faulty("filter not", 2, 10);
        check.faulty("filter far", 2, 10);
        check.faulty("filter not not not not not not", 2, 30);
    }

    /** A text cut behind each of its bytes: -1 where it is a STORE, else the place of the FAULT. */
    private static void everyPrefix() {
        String text = "bits 4;parts 1 3;code 0001 tag 3;filter not [ones < 3];";
        int[] due = {-1, 0, 0, 0, 4, 5, 6, -1, 7, 7, 7, 7, 12, 13, 14, 15, 16, -1, 17, 17, 17, 21, 22, 22, 22, 22, 26,
            27, 27, 27, 30, 31, 32, -1, 33, 33, 33, 33, 33, 39, 40, 40, 40, 43, 44, 45, 45, 45, 45, 49, 50, 51, 52, 53,
            54, -1};
        check.due("a place for each", due.length, text.length() + 1);
        for (int n = 0; n <= text.length(); n++) {
            if (due[n] < 0) {
                check.readable(text.substring(0, n), n < 33 ? 0 : 1);
            } else {
                check.faulty(text.substring(0, n), n >= 23 && n <= 25 ? 3 : 2, due[n]);
            }
        }
    }

    private static void behindAnotherLine() {
        check.faulty("bits 16;bits 16;", 2, 8);
        check.faulty("parts 8 8;bits 16;", 2, 10);
        check.faulty("parts 8 8;parts 8 8;", 2, 10);
        check.faulty("bits 16;parts 8 8;parts 8 8;", 2, 18);
        check.faulty("bits 16;parts 8 8;bits 16;", 2, 18);
        check.faulty("code " + ZEROS + ";bits 16;", 2, 22);
        check.faulty("code " + ZEROS + ";parts 16;", 2, 22);
        check.faulty("filter ones > 1;bits 16;", 2, 16);
        check.faulty("filter ones > 1;parts 16;", 2, 16);
        check.faulty("tag 1;", 2, 0);
        check.faulty("not;", 2, 0);
        check.faulty("ones > 1;", 2, 0);
        check.readable("filter ones > 1;code " + ZEROS + ";", 1);
    }

    private static void numbersOf8Digits() {
        check.readable("bits 00000016;parts 00000008 00000008;code " + ZEROS
                + " tag 00000009;filter bit 00000015 < 00000000 or key 00000001 > 99999999;", 1);
        check.faulty("bits 000000016;", 3, 5);
        check.faulty("parts 000000008 8;", 3, 6);
        check.faulty("parts 8 000000008;", 3, 8);
        check.faulty("code " + ZEROS + " tag 000000009;", 3, 26);
        check.faulty("filter bit 000000015 < 1;", 3, 11);
        check.faulty("filter key 000000001 < 1;", 3, 11);
        for (String value : new String[] {"ones", "tag", "number", "bit 0", "key 0", "far " + ZEROS}) {
            for (String sign : new String[] {"<", "=", ">"}) {
                String fact = "filter " + value + " " + sign + " ";
                check.readable(fact + "0;", 0);
                check.readable(fact + "99999999;", 0);
                check.faulty(fact + "100000000;", 3, fact.length());
                check.faulty(fact + "000000000;", 3, fact.length());
            }
        }
    }

    private static void binariesOfJustBits() {
        for (int bits : new int[] {4, 5, 16, 31, 32, 33, 47, 48}) {
            String head = "bits " + bits + ";";
            String code = head + "code ";
            AlikeStore x = check.readable(code + times(bits, "1") + ";", 1);
            check.fine("all ones", x, x.code(0), (1L << bits) - 1);
            AlikeStore y = check.readable(code + "1" + times(bits - 1, "0") + ";", 1);
            check.fine("the highest bit ahead", y, y.code(0), 1L << bits - 1);
            check.faulty(code + times(bits - 1, "1") + ";", 3, code.length());
            check.faulty(code + times(bits + 1, "1") + ";", bits == 48 ? 1 : 3, code.length());
            check.faulty(code + times(bits - 1, "1") + "2;", 3, code.length());
            check.faulty(code + "9" + times(bits - 1, "1") + ";", 3, code.length());
            String far = head + "filter far ";
            check.readable(far + times(bits, "0") + " = 0;", 0);
            check.faulty(far + times(bits - 1, "0") + " = 0;", 3, far.length());
            check.faulty(far + times(bits + 1, "0") + " = 0;", bits == 48 ? 1 : 3, far.length());
            check.faulty(far + times(bits - 1, "0") + "2 = 0;", 3, far.length());
        }
    }

    private static void noSuchBitOrKey() {
        for (int bits : new int[] {4, 16, 48}) {
            String head = "bits " + bits + ";filter bit ";
            check.readable(head + "0 = 1;", 0);
            check.readable(head + (bits - 1) + " = 1;", 0);
            check.faulty(head + bits + " = 1;", 4, head.length());
            check.faulty(head + "99999999 = 1;", 4, head.length());
        }
        for (int parts = 1; parts <= 6; parts++) {
            String head = "bits 6;parts" + times(parts - 1, " 1") + " " + (7 - parts) + ";filter key ";
            check.readable(head + "0 = 1;", 0);
            check.readable(head + (parts - 1) + " = 1;", 0);
            check.faulty(head + parts + " = 1;", 4, head.length());
        }
        check.readable("filter key 1 = 1;", 0);
        check.faulty("filter key 2 = 1;", 4, 11);
    }

    private static void thereAlready() {
        check.faulty("bits 4;code 0000;code 0000;", 5, 22);
        check.faulty("bits 4;code 0000;code 0001;code 0000 tag 1;", 5, 32);
        check.faulty("bits 4;code 1111;code 1110;code 0111;code 1110;", 5, 42);
        check.faulty("bits 5;" + codes(31, 5) + "code 11110;", 5, 353);
        check.faulty("filter tag = 1;filter tag = 1;", 5, 15);
        check.faulty("filter tag = 1;filter", 5, 15);
        check.faulty("bits 4;filter tag = 1;code 0000; filter tag = 1;", 5, 33);
        check.readable("bits 4;filter tag = 1;code 0000;", 1);
    }

    private static void withinOneAnother() {
        String[] wraps = {"not ", "["};
        for (int mix = 0; mix < 128; mix++) {
            StringBuilder open = new StringBuilder("filter ");
            StringBuilder close = new StringBuilder();
            int seventh = 0;
            for (int i = 0; i < 7; i++) {
                seventh = open.length();
                open.append(wraps[mix >> i & 1]);
                close.append(times(mix >> i & 1, "]"));
            }
            check.faulty(open + "tag = 0" + close + ";", 6, seventh);
        }
        check.readable("filter not not not not not not tag = 0;", 0);
        check.readable("filter [[[[[[tag = 0]]]]]];", 0);
        check.readable("filter not [not [not [tag = 0]]];", 0);
        check.readable("filter [[[[[[tag = 0]]]]]] or [[[[[[tag = 0]]]]]] and [[[[[[tag = 0]]]]]];", 0);
        check.readable("filter [[[[[not tag = 0 and not tag = 1 or not tag = 2]]]]];", 0);
        check.readable("filter not not not not not not tag = 0 and not not not not not not tag = 0;", 0);
        check.faulty("filter [[[[[[tag = 0]]]]]] or [[[[[[not tag = 0]]]]]];", 6, 36);
        check.faulty("filter [[[[[[tag = 0 or not tag = 0]]]]]];", 6, 24);
        check.faulty("filter [[[[[[tag = 0]]]]]]];", 2, 26);
        check.faulty("filter [[[[[[tag = 0]]]]];", 2, 25);
    }

    private static void theFirstAlongTheText() {
        check.faulty("bits 3;#", 4, 5);
        check.faulty("bits 4;code 0000;code 0000;code 2;", 5, 22);
        check.faulty("bits 4;code 2222;code 0000;code 0000;", 3, 12);
        check.faulty("parts 25 #", 4, 6);
        check.faulty("filter tag = 1;filter #", 5, 15);
        check.faulty("bits 4;bits 3;", 2, 7);
        check.faulty("filter not not not not not not not #", 6, 31);
    }

    private static void ofOneTokenTheLeast() {
        String long9 = "000000000";
        String long49 = times(49, "0");
        check.faulty("parts 4 4 4 2 1 1 " + long9 + ";", 3, 18);
        check.faulty("parts 4 4 4 2 1 1 " + long49 + ";", 1, 18);
        check.faulty("parts 8 8 " + long9 + ";", 3, 10);
        check.faulty("filter bit " + long9 + " = 1;", 3, 11);
        check.faulty("bits 4;code " + long49 + ";", 1, 12);
        check.faulty("bits " + long49 + ";", 1, 5);
        check.faulty("filter tag = 1 filter", 2, 15);
        check.faulty("bits 6;" + codes(31, 6) + "code 111111 code", 2, 391);
        check.faulty("filter not not not not not not tag not", 2, 35);
        check.faulty("filter not not not not not not {", 1, 31);
        check.faulty("parts 8 7 {", 1, 10);
        check.faulty("bits 6;" + codes(32, 6) + "Code", 1, 391);
    }

    // ---- Section 1: FILTER

    private static void counts(String text, int set) {
        AlikeStore x = new AlikeStore();
        Check.load(x, text);
        check.fine(text, x, x.many(4), set);
    }

    private static void filterValues() {
        String wide = "bits 48;code " + times(48, "0") + ";code " + times(48, "1") + " tag 9;filter ";
        counts(wide + "ones = 48;", 2);
        counts(wide + "ones = 0;", 1);
        counts(wide + "ones > 47;", 2);
        counts(wide + "ones > 48;", 0);
        counts(wide + "tag = 9;", 2);
        counts(wide + "tag = 0;", 1);
        counts(wide + "bit 47 = 1;", 2);
        counts(wide + "bit 47 = 0;", 1);
        counts(wide + "bit 0 > 0;", 2);
        counts(wide + "key 0 = 16777215;", 2);
        counts(wide + "key 1 = 16777215;", 2);
        counts(wide + "key 1 = 0;", 1);
        counts(wide + "far " + times(48, "0") + " = 48;", 2);
        counts(wide + "far " + times(48, "0") + " = 0;", 1);
        counts(wide + "far " + times(48, "1") + " > 47;", 1);
        counts(wide + "number = 0;", 1);
        counts(wide + "number = 1;", 2);
        counts(wide + "number > 1;", 0);
        AlikeStore x = check.readable("bits 5;" + codes(32, 5) + "filter number = 31;", 32);
        check.fine("the last of 32", x, x.many(4), Integer.MIN_VALUE);
        x.strike(0);
        check.fine("numbered less", x, x.many(4), 0);
        AlikeStore y = check.readable("bits 5;" + codes(32, 5) + "filter number < 32;", 32);
        check.fine("all 32", y, y.many(4), -1);
        check.fine("how many", y, y.many(3), 32);
    }

    private static void filterBounds() {
        String two = "bits 4;code 0111;code 0000;filter ";
        counts(two + "ones < 3;", 2);
        counts(two + "ones < 4;", 3);
        counts(two + "ones > 2;", 1);
        counts(two + "ones > 3;", 0);
        counts(two + "ones = 3;", 1);
        counts(two + "ones < 0;", 0);
        counts(two + "ones > 0;", 1);
        counts(two + "ones < 99999999;", 3);
        counts(two + "ones > 99999999;", 0);
        counts(two + "bit 0 = 2;", 0);
    }

    private static void filterOfAKey() {
        AlikeStore x = check.readable("bits 6;parts 2 2 2;code 110000;code 001100;filter key 2 = 3;", 2);
        check.fine("of the last PART", x, x.many(4), 1);
        x.merge(1);
        check.fine("no such PART any more: 0", x, x.many(4), 0);
        x.merge(0);
        check.fine("one PART", x, x.many(4), 0);
        x.split(0, 2);
        x.split(1, 2);
        check.fine("there it is again", x, x.many(4), 1);
        AlikeStore y = check.readable("bits 6;parts 2 2 2;code 110000;code 001100;filter key 2 = 0;", 2);
        check.fine("0 there", y, y.many(4), 2);
        y.merge(0);
        check.fine("0 for all", y, y.many(4), 3);
        y.undo();
        check.fine("undone", y, y.many(4), 2);
        AlikeStore z = check.readable("bits 6;parts 3 3;code 110000;code 001100;filter key 1 = 6;", 2);
        check.fine("of three bits", z, z.many(4), 1);
        z.split(0, 2);
        check.fine("it is another PART now", z, z.many(4), 0);
    }

    private static void filterNests() {
        String head = "bits 4;code 0001;filter ";
        String open = times(6, "ones = 0 or ones = 1 and [");
        counts(head + open + "tag = 0" + times(6, "]") + ";", 1);
        counts(head + open + "tag = 1" + times(6, "]") + ";", 0);
        counts(head + "not not not not not tag = 1;", 1);
        counts(head + "not not not not not not tag = 1;", 0);
        counts(head + "not [tag = 1 or not [tag = 1 or not [tag = 1 or tag = 1]]];", 1);
        counts(head + "not [tag = 1 or not [tag = 1 or not [tag = 1 or tag = 0]]];", 0);
        counts(head + "tag = 0 or tag = 0 and tag = 1;", 1);
        counts(head + "[tag = 0 or tag = 0] and tag = 1;", 0);
        counts(head + "not tag = 1 and tag = 1;", 0);
        counts(head + "not [tag = 1 and tag = 1];", 1);
        counts(head + "not tag = 1 or tag = 1;", 1);
        counts(head + "tag = 1 and tag = 0 or tag = 0;", 1);
    }

    private static void filterOf900Bytes() {
        String head = "bits 4;code 0001;filter ";
        for (int tag = 0; tag < 2; tag++) {
            String or = head + times(108, "tag=9or ") + times(6, " ") + "tag=" + tag + ";";
            check.due("its length", or.length(), 900);
            counts(or, 1 - tag);
            String and = head + times(96, "tag=0and ") + times(6, " ") + "tag=" + tag + ";";
            check.due("its length", and.length(), 900);
            counts(and, 1 - tag);
            String wrapped = head + times(96, "[tag=9]or") + times(6, " ") + "tag=" + tag + ";";
            counts(wrapped, 1 - tag);
            String nots = head + times(70, "not tag=0or ") + times(30, " ") + "tag=" + tag + ";";
            counts(nots, 1 - tag);
        }
    }
}

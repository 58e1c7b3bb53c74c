/** Promises 6 to 24 at their edges: what there is, ACTS, what undoes them, MARKS. */
public final class EdgesOfActsTest {
    private static final Check check = new Check();

    public static void main(String[] args) {
        numbersOfAllBits();
        keysOfAllParts();
        measuresAtTheEnds();
        findAnyCode();
        addFromLeastToGreatest();
        addHasTag0();
        strikeEachPlace();
        flipEachBit();
        swapEachBit();
        swapChangesCodesAlone();
        tagEachTag();
        splitFromLeastToGreatest();
        splitToSix();
        splitOfOneBit();
        mergeUpTo24();
        mergeEach();
        openOnce();
        whatAnActIs();
        undoOfALoad();
        undoTheLatest12();
        undoRoundAndRound();
        marksAtMost3();
        backToTheLatest();
        backOverLoads();
        backAndUndo();
        lastOf512Calls();
        check.end("EdgesOfActsTest");
    }

    private static AlikeStore six() {
        return Check.loaded("bits 8;parts 3 5;code 00000001 tag 1;code 00000010 tag 2;code 00000100 tag 3;"
                + "code 00001000 tag 4;code 00010000 tag 5;code 00100000 tag 6;");
    }

    private static void partsAre(AlikeStore x, int... breadths) {
        check.fine("how many PARTS", x, x.many(1), breadths.length);
        for (int part = 0; part < breadths.length; part++) {
            check.fine("PART " + part, x, x.breadth(part), breadths[part]);
        }
        check.refused("no more PARTS", x, x.breadth(breadths.length), 2);
    }

    private static void codesAre(AlikeStore x, long... codes) {
        check.fine("how many CODES", x, x.many(2), codes.length);
        for (int code = 0; code < codes.length; code++) {
            check.fine("CODE " + code, x, x.code(code), codes[code]);
        }
        check.refused("no more CODES", x, x.code(codes.length), 2);
    }

    // ---- Promises 6 to 13

    /** A number of more than BITS bits can't be, for each number of BITS. */
    private static void numbersOfAllBits() {
        for (int bits = 4; bits <= 48; bits++) {
            AlikeStore x = Check.loaded("bits " + bits + ";");
            long most = (1L << bits) - 1;
            check.fine("the greatest of " + bits, x, x.add(most), 0);
            check.refused("one more", x, x.add(most + 1), 1);
            check.fine("CODE", x, x.code(0), most);
            check.fine("found", x, x.find(most), 0);
            check.refused("not found", x, x.find(most - 1), 5);
            check.refused("one more", x, x.find(most + 1), 1);
            check.fine("FAR", x, x.far(0, 0), bits);
            check.refused("FAR from one more", x, x.far(0, most + 1), 1);
            check.fine("by a RADIUS of all", x, x.near(0, bits, 2), 1);
            check.fine("by one less", x, x.near(0, bits - 1, 2), 0);
            check.refused("by one more", x, x.near(0, bits + 1, 2), 1);
            check.fine("the highest bit", x, x.flip(0, bits - 1), 0);
            check.refused("one more", x, x.flip(0, bits), 1);
            check.fine("both ends", x, x.swap(0, bits - 1), 1);
            check.refused("one more", x, x.swap(0, bits), 1);
            check.fine("ones there", x, x.ones(bits - 1), 1);
            check.refused("one more", x, x.ones(bits), 1);
            check.fine("turned", x, x.code(0), most - 1);
            check.refused("a mask of one more", x, x.like(most + 1, 0), 1);
            check.fine("a mask of all", x, x.like(most, most - 1), 1);
        }
    }

    private static void keysOfAllParts() {
        AlikeStore x = Check.loaded("bits 48;parts 1 2 3 24 17 1;code " + "1" + "01010101010101010"
                + "110000000000000000000011" + "101" + "10" + "1" + ";");
        int[] keys = {1, 2, 5, 12582915, 43690, 1};
        for (int part = 0; part < 6; part++) {
            check.fine("KEY in " + part, x, x.key(0, part), keys[part]);
        }
        check.refused("KEY in a seventh", x, x.key(0, 6), 2);
        AlikeStore one = Check.loaded("bits 24;parts 24;code 111111111111111111111111;");
        check.fine("of all bits", one, one.key(0, 0), 16777215);
        AlikeStore ones = Check.loaded("bits 6;parts 1 1 1 1 1 1;code 101001;");
        int[] bits = {1, 0, 0, 1, 0, 1};
        for (int part = 0; part < 6; part++) {
            check.fine("bit " + part, ones, ones.key(0, part), bits[part]);
        }
    }

    private static void measuresAre(AlikeStore x, int code, int... due) {
        for (int measure = 0; measure < 4; measure++) {
            check.fine("MEASURE " + measure + " of 0, " + code, x, x.measure(0, code, measure), due[measure]);
            check.fine("MEASURE " + measure + " of " + code + ", 0", x, x.measure(code, 0, measure), due[measure]);
        }
    }

    private static void measuresAtTheEnds() {
        AlikeStore x = Check.loaded("bits 48;");
        long all = (1L << 48) - 1;
        long[] codes = {0, all, 1, 1L << 47, 1L << 47 | 1, all - 1, all >> 1, 0x555555555555L, 0xaaaaaaaaaaaaL,
            all ^ 1L << 24, 3L << 46, 0x700000000002L, 6};
        for (long code : codes) {
            x.add(code);
        }
        measuresAre(x, 0, 0, 0, 0, 0);
        measuresAre(x, 1, 48, 1, 48, 48);
        measuresAre(x, 2, 1, 1, 1, 1);
        measuresAre(x, 3, 1, 1, 1, 1);
        measuresAre(x, 4, 2, 2, 48, 1);
        measuresAre(x, 5, 47, 1, 47, 47);
        measuresAre(x, 6, 47, 1, 47, 47);
        measuresAre(x, 7, 24, 24, 47, 1);
        measuresAre(x, 8, 24, 24, 47, 1);
        measuresAre(x, 9, 47, 2, 48, 24);
        measuresAre(x, 10, 2, 1, 2, 2);
        measuresAre(x, 11, 4, 2, 46, 3);
        measuresAre(x, 12, 2, 1, 2, 2);
    }

    private static void findAnyCode() {
        AlikeStore x = six();
        check.fine("the first", x, x.find(1), 0);
        check.fine("the last", x, x.find(32), 5);
        check.refused("none between", x, x.find(0), 5);
        x.strike(0);
        check.refused("it is gone", x, x.find(1), 5);
        check.fine("numbered less", x, x.find(32), 4);
        x.flip(4, 0);
        check.refused("it is another now", x, x.find(32), 5);
        check.fine("this one", x, x.find(33), 4);
    }

    // ---- Promises 14 to 18

    private static void addFromLeastToGreatest() {
        AlikeStore x = Check.loaded("bits 4;");
        for (int number = 15; number >= 0; number--) {
            check.fine("each number once", x, x.add(number), 15 - number);
        }
        for (int number = 0; number < 16; number++) {
            check.refused("and not twice", x, x.add(number), 4);
        }
        check.fine("16 of 16", x, x.many(2), 16);
    }

    private static void addHasTag0() {
        AlikeStore x = six();
        x.strike(5);
        check.fine("in its place", x, x.add(64), 5);
        check.fine("TAG 0", x, x.tagOf(5), 0);
        x.tag(5, 7);
        x.undo();
        x.undo();
        x.add(65);
        check.fine("TAG 0 again", x, x.tagOf(5), 0);
        Check.load(x, "bits 8;");
        x.add(66);
        check.fine("TAG 0 behind a load()", x, x.tagOf(0), 0);
    }

    private static void strikeEachPlace() {
        for (int gone = 0; gone < 6; gone++) {
            AlikeStore x = six();
            check.fine("strike " + gone, x, x.strike(gone), 5);
            for (int code = 0; code < 5; code++) {
                int was = code < gone ? code : code + 1;
                check.fine("CODE " + code, x, x.code(code), 1L << was);
                check.fine("TAG of " + code, x, x.tagOf(code), was + 1);
            }
            check.refused("one less", x, x.code(5), 2);
            check.refused("its TAG", x, x.tagOf(5), 2);
            check.fine("all that are left", x, x.many(4), 31);
            check.fine("it can come again", x, x.add(1L << gone), 5);
        }
    }

    private static void flipEachBit() {
        AlikeStore x = Check.loaded("bits 48;code " + "0".repeat(48) + " tag 3;");
        for (int bit = 0; bit < 48; bit++) {
            check.fine("flip " + bit, x, x.flip(0, bit), 1);
            check.fine("CODE then", x, x.code(0), 1L << bit);
            check.fine("flip back " + bit, x, x.flip(0, bit), 0);
            check.fine("CODE again", x, x.code(0), 0);
        }
        check.refused("flip 48", x, x.flip(0, 48), 1);
        check.fine("TAG stays", x, x.tagOf(0), 3);
        x.add(1);
        check.refused("to the other", x, x.flip(0, 0), 4);
        check.refused("from the other", x, x.flip(1, 0), 4);
        check.fine("another bit", x, x.flip(1, 47), 1);
        check.fine("free now", x, x.flip(0, 0), 1);
    }

    private static void swapEachBit() {
        for (int bit = 0; bit < 8; bit++) {
            for (int other = 0; other < 8; other++) {
                AlikeStore x = six();
                if (bit == other) {
                    check.refused("one bit", x, x.swap(bit, other), 4);
                    continue;
                }
                int changed = (bit < 6 ? 1 : 0) + (other < 6 ? 1 : 0);
                check.fine("swap " + bit + " " + other, x, x.swap(bit, other), changed);
                for (int code = 0; code < 6; code++) {
                    int now = code == bit ? other : code == other ? bit : code;
                    check.fine("CODE " + code, x, x.code(code), 1L << now);
                    check.fine("TAG " + code, x, x.tagOf(code), code + 1);
                }
                check.fine("an ACT", x, x.many(5), 2);
            }
        }
    }

    private static void swapChangesCodesAlone() {
        AlikeStore x = Check.loaded("bits 4;parts 1 3;code 0001;code 0111;filter bit 0 = 1 and far 0001 < 1;");
        check.fine("one counts", x, x.many(4), 1);
        check.fine("swap", x, x.swap(0, 3), 2);
        check.fine("the FILTER is as it is", x, x.many(4), 0);
        check.fine("all are others", x, x.code(0), 8);
        partsAre(x, 1, 3);
        AlikeStore y = Check.loaded("bits 4;code 0011;code 1111;code 0000;");
        check.fine("two bits alike in all", y, y.swap(0, 1), 0);
        codesAre(y, 3, 15, 0);
        check.fine("an ACT all the same", y, y.many(5), 2);
        check.fine("that can be undone", y, y.undo(), 1);
    }

    private static void tagEachTag() {
        AlikeStore x = six();
        int had = 1;
        for (int tag : new int[] {9, 0, 8, 5, 1, 2}) {
            check.fine("tag " + tag, x, x.tag(0, tag), had);
            check.fine("it has it", x, x.tagOf(0), tag);
            check.refused("it is so", x, x.tag(0, tag), 4);
            had = tag;
        }
        check.refused("10", x, x.tag(0, 10), 1);
        check.refused("-1", x, x.tag(0, -1), 1);
        check.fine("others have theirs", x, x.tagOf(1), 2);
        check.fine("six ACTS more", x, x.many(5), 7);
    }

    // ---- Promises 19 to 21

    private static void splitFromLeastToGreatest() {
        for (int had : new int[] {2, 3, 24}) {
            String head = "bits " + Math.max(4, had) + ";parts " + had + (had < 4 ? " " + (4 - had) : "") + ";";
            for (int breadth = -1; breadth <= had + 1; breadth++) {
                AlikeStore x = Check.loaded(head);
                int parts = x.many(1);
                if (breadth >= 1 && breadth < had) {
                    check.fine("split by " + breadth + " of " + had, x, x.split(0, breadth), parts + 1);
                    check.fine("the lower", x, x.breadth(0), breadth);
                    check.fine("the upper", x, x.breadth(1), had - breadth);
                } else {
                    check.refused("split by " + breadth + " of " + had, x, x.split(0, breadth), 1);
                }
            }
        }
    }

    private static void splitToSix() {
        for (int part = 0; part < 5; part++) {
            AlikeStore x = Check.loaded("bits 15;parts 2 3 4 3 3;code 101010101010101;");
            int[] due = new int[6];
            int[] had = {2, 3, 4, 3, 3};
            for (int i = 0; i < 6; i++) {
                due[i] = i < part ? had[i] : i == part ? 1 : i == part + 1 ? had[part] - 1 : had[i - 1];
            }
            check.fine("split " + part, x, x.split(part, 1), 6);
            partsAre(x, due);
            check.refused("a seventh", x, x.split(part == 0 ? 2 : 0, 1), 3);
            check.fine("KEY of the new one", x, x.key(0, part), x.code(0) >> start(due, part) & 1);
            check.fine("the first is told anew", x, x.merge(part), 5);
            partsAre(x, had);
        }
    }

    private static int start(int[] breadths, int part) {
        int start = 0;
        for (int i = 0; i < part; i++) {
            start += breadths[i];
        }
        return start;
    }

    private static void splitOfOneBit() {
        AlikeStore x = Check.loaded("bits 4;parts 1 3;");
        for (int breadth : new int[] {0, 1, 2}) {
            check.refused("a PART of one bit", x, x.split(0, breadth), 1);
        }
        check.fine("the other", x, x.split(1, 2), 3);
        check.refused("one bit again", x, x.split(2, 1), 1);
        partsAre(x, 1, 2, 1);
    }

    private static void mergeUpTo24() {
        for (int upper = 1; upper <= 24; upper++) {
            for (int lower : new int[] {1, 11, 12, 13, 23, 24}) {
                AlikeStore x = Check.loaded("bits " + Math.max(4, lower + upper) + ";parts " + lower + " " + upper
                        + (lower + upper < 4 ? " " + (4 - lower - upper) : "") + ";");
                if (lower + upper <= 24) {
                    int parts = x.many(1);
                    check.fine("merge " + lower + " and " + upper, x, x.merge(0), parts - 1);
                    check.fine("as broad as both", x, x.breadth(0), lower + upper);
                } else {
                    check.refused("merge " + lower + " and " + upper, x, x.merge(0), 6);
                    partsAre(x, lower, upper);
                }
            }
        }
    }

    private static void mergeEach() {
        int[] had = {1, 2, 3, 4, 5, 6};
        for (int part = -1; part <= 6; part++) {
            AlikeStore x = Check.loaded("bits 21;parts 1 2 3 4 5 6;");
            if (part < 0 || part > 4) {
                check.refused("merge " + part, x, x.merge(part), 2);
                partsAre(x, had);
            } else {
                int[] due = new int[5];
                for (int i = 0; i < 5; i++) {
                    due[i] = i < part ? had[i] : i == part ? had[i] + had[i + 1] : had[i + 1];
                }
                check.fine("merge " + part, x, x.merge(part), 5);
                partsAre(x, due);
            }
        }
        AlikeStore x = Check.loaded("bits 21;parts 1 2 3 4 5 6;");
        for (int left = 5; left >= 1; left--) {
            check.fine("down to one", x, x.merge(0), left);
        }
        partsAre(x, 21);
        check.refused("none is next", x, x.merge(0), 2);
    }

    private static void openOnce() {
        AlikeStore x = Check.loaded("bits 4;code 0000;code 0001;filter ones = 1;");
        check.fine("open", x, x.open(), 0);
        check.fine("all COUNT", x, x.many(4), 3);
        check.refused("there is none", x, x.open(), 5);
        check.fine("undone", x, x.undo(), 1);
        check.fine("there it is again", x, x.many(4), 2);
        check.fine("open again", x, x.open(), 0);
        AlikeStore y = Check.loaded("bits 4;filter ones = 1;");
        Check.load(y, "bits 4;code 0000;");
        check.refused("a TEXT without", y, y.open(), 5);
    }

    // ---- Promises 22 to 24

    private static void whatAnActIs() {
        AlikeStore x = Check.loaded("bits 8;code 00000001;filter ones > 0;");
        x.many(0);
        x.near(0, 1, 0);
        x.clusters(1, 0);
        x.vote(1);
        x.mark();
        x.fault(0);
        x.feed(0x20202020, 0x20202020, 0x20202020, 0x20202020, 0x20202020);
        check.fine("load() alone", x, x.many(5), 1);
        x.load(21);
        x.add(1);
        x.flip(0, 8);
        x.tag(0, 0);
        check.fine("with STATUS 0 alone", x, x.many(5), 1);
        x.load(20);
        check.fine("blanks are a STORE", x, x.many(5), 2);
        x.add(5);
        x.swap(0, 1);
        x.flip(0, 3);
        x.tag(0, 4);
        x.split(0, 2);
        x.merge(1);
        x.strike(0);
        check.fine("nine of them", x, x.many(5), 9);
        x.undo();
        check.fine("undo() is none", x, x.many(5), 8);
    }

    private static void undoOfALoad() {
        AlikeStore x = Check.loaded("bits 9;parts 2 3 4;code 111111111 tag 8;code 000000000;filter tag = 8;");
        String had = Check.told(x);
        check.fine("another", x, Check.load(x, "bits 40;code 0000000000111111111100000000001111111111;"), 1);
        check.fine("undone", x, x.undo(), 1);
        check.same("the STORE that was", Check.told(x), had);
        check.due("fault() tells the latest load()", x.fault(0), 0);
        check.refused("a FAULT", x, Check.load(x, "bits 41;x"), 9);
        check.fine("the load() ahead is the latest ACT", x, x.undo(), 0);
        check.same("a new object's STORE", Check.told(x), Check.told(new AlikeStore()));
        check.due("fault() stays", x.fault(0), 2);
        check.due("its place too", x.fault(1), 8);
        check.refused("nothing more", x, x.undo(), 5);
    }

    private static void undoTheLatest12() {
        for (int acts = 0; acts <= 26; acts++) {
            AlikeStore x = new AlikeStore();
            for (int i = 0; i < acts; i++) {
                x.add(i);
            }
            int can = Math.min(acts, 12);
            check.fine("of " + acts, x, x.many(5), can);
            for (int left = can - 1; left >= 0; left--) {
                check.fine("undo", x, x.undo(), left);
            }
            check.refused("no more", x, x.undo(), 5);
            check.fine("those ahead stay", x, x.many(2), acts - can);
        }
    }

    /** Twelve places are used again and again. */
    private static void undoRoundAndRound() {
        AlikeStore x = Check.loaded("bits 48;");
        for (int round = 0; round < 3; round++) {
            for (int i = 0; i < 17; i++) {
                x.add(100L * round + i);
            }
            String had = Check.told(x);
            for (int i = 0; i < 5; i++) {
                x.flip(i, 40);
            }
            for (int left = 11; left >= 7; left--) {
                check.fine("undo", x, x.undo(), left);
            }
            check.same("five of twelve", Check.told(x), had);
            for (int left = 6; left >= 0; left--) {
                check.fine("undo", x, x.undo(), left);
            }
            check.fine("ten of the seventeen", x, x.many(2), 10);
            for (int i = 0; i < 10; i++) {
                x.strike(0);
            }
            check.fine("none", x, x.many(2), 0);
        }
    }

    private static void marksAtMost3() {
        AlikeStore x = new AlikeStore();
        for (int round = 0; round < 3; round++) {
            for (int marks = 1; marks <= 3; marks++) {
                check.fine("mark", x, x.mark(), marks);
                check.fine("MARKS", x, x.many(6), marks);
            }
            check.refused("a fourth", x, x.mark(), 3);
            check.fine("MARKS still", x, x.many(6), 3);
            for (int left = 2; left >= 0; left--) {
                check.fine("back", x, x.back(), left);
                check.fine("MARKS left", x, x.many(6), left);
            }
            check.refused("none", x, x.back(), 5);
        }
    }

    private static void backToTheLatest() {
        AlikeStore x = six();
        x.mark();
        x.strike(5);
        x.mark();
        x.tag(0, 9);
        x.mark();
        check.fine("where it is already", x, x.back(), 2);
        check.fine("as it was", x, x.tagOf(0), 9);
        check.fine("to the second", x, x.back(), 1);
        check.fine("TAG then", x, x.tagOf(0), 1);
        check.fine("CODES then", x, x.many(2), 5);
        x.flip(0, 7);
        check.fine("a MARK anew", x, x.mark(), 2);
        x.flip(0, 6);
        check.fine("to that", x, x.back(), 1);
        check.fine("CODE then", x, x.code(0), 129);
        check.fine("to the first", x, x.back(), 0);
        check.same("all of it", Check.told(x), Check.told(six()));
    }

    private static void backOverLoads() {
        AlikeStore x = Check.loaded("bits 9;parts 2 3 4;code 111111111 tag 8;code 000000000;filter tag = 8;");
        String had = Check.told(x);
        x.mark();
        Check.load(x, "bits 40;code 0000000000111111111100000000001111111111;");
        check.fine("a load() leaves MARKS", x, x.many(6), 1);
        x.open();
        for (int i = 0; i < 20; i++) {
            x.add(i);
        }
        check.fine("back", x, x.back(), 0);
        check.same("the STORE that was", Check.told(x), had);
        check.fine("the FILTER too", x, x.open(), 0);
    }

    private static void backAndUndo() {
        AlikeStore x = new AlikeStore();
        x.add(1);
        x.add(2);
        check.fine("mark() is no ACT", x, x.mark() + x.many(5), 3);
        check.fine("nor hinders undo()", x, x.undo(), 1);
        check.fine("past the MARK", x, x.many(2), 1);
        check.fine("back", x, x.back(), 0);
        check.fine("to the MARK", x, x.many(2), 2);
        check.fine("nothing can be undone then", x, x.many(5), 0);
        check.refused("nothing", x, x.undo(), 5);
        x.add(3);
        check.fine("but what comes then", x, x.undo(), 0);
        codesAre(x, 1, 2);
        x.mark();
        check.refused("mark() gives nothing to undo", x, x.undo(), 5);
        for (int i = 10; i < 24; i++) {
            x.add(i);
        }
        check.fine("back over more than twelve", x, x.back(), 0);
        codesAre(x, 1, 2);
    }

    /** An object is used for at most 512 calls: the last of them is answered as well as the first. */
    private static void lastOf512Calls() {
        AlikeStore x = new AlikeStore();
        for (int call = 1; call <= 508; call += 2) {
            check.due("add", x.add(call), call == 1 ? 0 : 1);
            check.due("strike", call == 1 ? x.flip(0, 15) : x.strike(1), 1);
        }
        check.due("call 509", x.many(5), 12);
        check.due("call 510", x.undo(), 11);
        check.due("call 511", x.code(1), 507);
        check.due("call 512", x.status(), 0);
    }
}

import java.nio.charset.StandardCharsets;

/** What the project's tests share: counting wrong answers, and feeding a text. */
final class Check {
    private int wrong = 0;
    private int asked = 0;

    void due(String what, long got, long want) {
        asked++;
        if (got != want) {
            wrong++;
            if (wrong <= 40) {
                System.out.println(what + " answered " + got + ", due is " + want);
            }
        }
    }

    /** NONE is due, with a STATUS. */
    void refused(String what, AlikeStore store, long got, int status) {
        due(what, got, AlikeStore.NONE);
        due(what + ", its STATUS", store.status(), status);
    }

    /** An answer is due, with STATUS 0. */
    void fine(String what, AlikeStore store, long got, long want) {
        due(what, got, want);
        due(what + ", its STATUS", store.status(), 0);
    }

    /** A TEXT that is a STORE, of so many CODES. */
    AlikeStore readable(String text, int codes) {
        AlikeStore x = new AlikeStore();
        fine(brief(text), x, load(x, text), codes);
        due("fault of " + brief(text), x.fault(0), 0);
        due("place in " + brief(text), x.fault(1), AlikeStore.NONE);
        return x;
    }

    /** A TEXT with a FAULT, at a place. */
    void faulty(String text, int kind, int place) {
        AlikeStore x = new AlikeStore();
        refused(brief(text), x, load(x, text), 9);
        due("fault of " + brief(text), x.fault(0), kind);
        due("place in " + brief(text), x.fault(1), place);
    }

    /** Two texts that must be the same; told whole only where they aren't. */
    void same(String what, String got, String want) {
        due(what + (got.equals(want) ? "" : ", '" + got + "' for '" + want + "',"), got.equals(want) ? 1 : 0, 1);
    }

    private static String brief(String text) {
        return "'" + (text.length() > 60 ? text.substring(0, 60) + ".." : text) + "'";
    }

    /** A STORE as the calls tell it: BITS, PARTS, CODES with their TAGS, what COUNTS. */
    static String told(AlikeStore x) {
        StringBuilder told = new StringBuilder();
        for (int what : new int[] {0, 1, 2, 3, 4, 7}) {
            told.append(x.many(what)).append(' ');
        }
        int codes = x.many(2);
        for (int code = 0; code <= codes; code++) {
            told.append(x.code(code)).append(',').append(x.tagOf(code)).append(' ');
        }
        int parts = x.many(1);
        for (int part = 0; part <= parts; part++) {
            told.append(x.breadth(part)).append(' ');
        }
        return told.toString();
    }

    static void feed(AlikeStore store, String text) {
        byte[] bytes = text.getBytes(StandardCharsets.ISO_8859_1);
        for (int at = 0; at < bytes.length; at += 20) {
            store.feed(four(bytes, at), four(bytes, at + 4), four(bytes, at + 8), four(bytes, at + 12),
                    four(bytes, at + 16));
        }
    }

    static int load(AlikeStore store, String text) {
        feed(store, text);
        return store.load(text.length());
    }

    static AlikeStore loaded(String text) {
        AlikeStore store = new AlikeStore();
        load(store, text);
        return store;
    }

    static int four(byte[] bytes, int at) {
        int four = 0;
        for (int i = at; i < at + 4; i++) {
            four = four << 8 | (i < bytes.length ? bytes[i] & 255 : 0);
        }
        return four;
    }

    void end(String name) {
        System.out.println(name + ": " + asked + " answers, " + wrong + " not as due");
        if (wrong != 0) {
            System.exit(1);
        }
    }
}

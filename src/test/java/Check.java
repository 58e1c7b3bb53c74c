import java.nio.charset.StandardCharsets;

/** What the project's tests share: counting wrong answers, and feeding a text. */
final class Check {
    private int wrong = 0;
    private int asked = 0;

    void due(String what, long got, long want) {
        asked++;
        if (got != want) {
            wrong++;
            if (wrong <= 40) {
                System.out.println(what + " answered " + got + ", due is " + want);
            }
        }
    }

    /** NONE is due, with a STATUS. */
    void refused(String what, AlikeStore store, long got, int status) {
        due(what, got, AlikeStore.NONE);
        due(what + ", its STATUS", store.status(), status);
    }

    /** An answer is due, with STATUS 0. */
    void fine(String what, AlikeStore store, long got, long want) {
        due(what, got, want);
        due(what + ", its STATUS", store.status(), 0);
    }

    static void feed(AlikeStore store, String text) {
        byte[] bytes = text.getBytes(StandardCharsets.ISO_8859_1);
        for (int at = 0; at < bytes.length; at += 20) {
            store.feed(four(bytes, at), four(bytes, at + 4), four(bytes, at + 8), four(bytes, at + 12),
                    four(bytes, at + 16));
        }
    }

    static int load(AlikeStore store, String text) {
        feed(store, text);
        return store.load(text.length());
    }

    static AlikeStore loaded(String text) {
        AlikeStore store = new AlikeStore();
        load(store, text);
        return store;
    }

    static int four(byte[] bytes, int at) {
        int four = 0;
        for (int i = at; i < at + 4; i++) {
            four = four << 8 | (i < bytes.length ? bytes[i] & 255 : 0);
        }
        return four;
    }

    void end(String name) {
        System.out.println(name + ": " + asked + " answers, " + wrong + " not as due");
        if (wrong != 0) {
            System.exit(1);
        }
    }
}

import java.util.ArrayList;
import java.util.Arrays;
import java.util.List;
import java.util.Random;

/** Runs of calls by a fixed seed: AlikeStore must answer as NaiveStore does, and so must its STATUS. */
public final class ModelTest {
    private static final int RUNS = 3000;
    // Each is followed by a status(), and an object is used for at most 512 calls.
    private static final int CALLS_OF_A_RUN = 256;
    // What one text takes at most: an empty load(), 45 times feed(), load(), and four that ask.
    private static final int TEXT_CALLS = 51;
    private static final String[] CALLS = {
        "many", "code", "tagOf", "breadth", "key", "far", "measure", "find", "add", "add", "add", "strike", "flip",
        "swap", "tag", "split", "merge", "open", "undo", "mark", "back", "budget", "cost", "near", "near", "ranked",
        "grown", "apart", "apart", "pairs", "pair", "joined", "closest", "clusters", "cluster", "cluster", "vote",
        "like", "ones", "telling", "alike", "spread", "parted", "bestPart", "text", "text", "feed", "load", "fault"
    };

    private final Random random;
    private final AlikeStore real = new AlikeStore();
    private final NaiveStore naive = new NaiveStore();
    private final List<String> said = new ArrayList<>();
    private int calls = 0;

    private ModelTest(long seed) {
        // Seeds side by side begin alike; this sets them apart.
        random = new Random(seed * 0x9e3779b97f4a7c15L);
    }

    public static void main(String[] args) {
        int runs = args.length > 0 ? Integer.parseInt(args[0]) : RUNS;
        int from = args.length > 1 ? Integer.parseInt(args[1]) : 1;
        int[] statuses = new int[10];
        int[] faults = new int[8];
        for (int seed = from; seed < from + runs; seed++) {
            new ModelTest(seed).run(seed, statuses, faults);
        }
        System.out.println("ModelTest: " + runs + " runs; by STATUS " + Arrays.toString(statuses) + ", by FAULT "
                + Arrays.toString(faults));
        for (int fault = 0; fault <= 6; fault++) {
            if (faults[fault] == 0) {
                System.out.println("no text had FAULT " + fault);
                System.exit(1);
            }
        }
    }

    private void run(int seed, int[] statuses, int[] faults) {
        boolean texts = random.nextBoolean();
        while (calls < CALLS_OF_A_RUN) {
            String name = CALLS[random.nextInt(CALLS.length)];
            if (name.equals("text")) {
                if (calls < (texts ? CALLS_OF_A_RUN - TEXT_CALLS : TEXT_CALLS)) {
                    feedText();
                    if (naive.fault >= 0) {
                        faults[naive.fault]++;
                    }
                }
            } else {
                say(name, arguments(name));
            }
            statuses[naive.status]++;
        }
        if (wrong) {
            System.out.println("run " + seed + ":");
            said.forEach(System.out::println);
            System.exit(1);
        }
    }

    private boolean wrong = false;

    private void say(String name, long... a) {
        if (wrong) {
            calls++;
            return;
        }
        long got = answer(name, a);
        long due = naive.call(name, a);
        String row = name + Arrays.toString(a) + " " + got;
        if (got != due || real.status() != naive.status) {
            row += ", due is " + due + ", STATUS " + real.status() + ", due is " + naive.status;
            wrong = true;
        }
        said.add(row);
        calls++;
    }

    // ---- arguments

    private long code() {
        return within(naive.now.entries.size());
    }

    /** From 0 to below a bound most often, sometimes just outside, seldom far away. */
    private long within(int bound) {
        switch (random.nextInt(24)) {
            case 0:
                return bound;
            case 1:
                return -1;
            case 2:
                return random.nextInt();
            default:
                return random.nextInt(Math.max(bound, 1));
        }
    }

    private long number() {
        List<NaiveStore.Entry> entries = naive.now.entries;
        long mask = (1L << naive.now.width) - 1;
        switch (random.nextInt(12)) {
            case 0:
                return random.nextInt(3) == 0 ? mask + 1 : random.nextInt(3) == 0 ? -1 : mask;
            case 1:
                return random.nextLong();
            case 2:
            case 3:
                return random.nextInt(16);
            case 4:
            case 5:
                return random.nextLong() & mask;
            default:
                if (entries.isEmpty()) {
                    return random.nextLong() & mask;
                }
                long number = NaiveStore.number(entries.get(random.nextInt(entries.size())).bits);
                for (int i = random.nextInt(5); i > 0; i--) {
                    number ^= 1L << random.nextInt(naive.now.width);
                }
                return number;
        }
    }

    private long radius() {
        return random.nextInt(3) > 0 ? random.nextInt(7) : within(naive.now.width + 1);
    }

    private long bit() {
        return within(naive.now.width);
    }

    private long part() {
        return within(naive.now.parts.size());
    }

    private long[] arguments(String name) {
        switch (name) {
            case "many":
                return new long[] {within(8)};
            case "code":
            case "tagOf":
            case "strike":
                return new long[] {code()};
            case "breadth":
            case "merge":
                return new long[] {part()};
            case "key":
                return new long[] {code(), part()};
            case "far":
                return new long[] {code(), number()};
            case "measure":
                return new long[] {code(), code(), within(4)};
            case "find":
            case "add":
                return new long[] {number()};
            case "flip":
                return new long[] {code(), bit()};
            case "swap":
            case "alike":
                return new long[] {bit(), bit()};
            case "tag":
                return new long[] {code(), within(10)};
            case "split":
                return new long[] {part(), within(12)};
            case "budget":
                return new long[] {number(), radius(), part()};
            case "cost":
                return new long[] {number(), part(), within(10) - random.nextInt(2)};
            case "near":
                return new long[] {number(), radius(), within(5)};
            case "ranked":
                return new long[] {number(), code()};
            case "grown":
                return new long[] {number(), code(), within(2)};
            case "apart":
                return new long[] {number(), radius(), random.nextInt(4) == 0 ? within(33) : 1 + random.nextInt(32),
                    random.nextBoolean() ? within(4) : code()};
            case "pairs":
            case "joined":
            case "bestPart":
                return new long[] {radius()};
            case "pair":
                return new long[] {radius(), random.nextBoolean() ? within(4) : within(60), within(3)};
            case "closest":
                return new long[] {within(3)};
            case "clusters":
                return new long[] {radius(), within(3)};
            case "cluster":
                return new long[] {code(), radius(), within(3)};
            case "vote":
                int size = naive.now.entries.size();
                return new long[] {random.nextInt(8) == 0 ? random.nextInt()
                    : random.nextInt() & (int) ((1L << size) - 1)};
            case "like":
                return new long[] {random.nextBoolean() ? number() & number() : number(), number()};
            case "ones":
                return new long[] {bit()};
            case "spread":
                return new long[] {part(), within(2)};
            case "parted":
                return new long[] {within(Math.min(naive.now.width, 25)), radius()};
            case "feed":
                return new long[] {random.nextInt(), 0x20202020, 0x636f6465, 0x3b3b3b3b, random.nextInt()};
            case "load":
                return new long[] {within(naive.tape.size() + 1)};
            case "fault":
                return new long[] {within(2)};
            default:
                return new long[0];
        }
    }

    // ---- texts

    private void feedText() {
        if (!naive.tape.isEmpty()) {
            say("load", 0);
        }
        String text = text();
        if (random.nextInt(3) == 0) {
            text = spoiled(text);
        }
        text = text.substring(0, Math.min(text.length(), 900));
        byte[] bytes = new byte[(text.length() + 19) / 20 * 20];
        for (int i = 0; i < text.length(); i++) {
            bytes[i] = (byte) text.charAt(i);
        }
        for (int i = 0; i < bytes.length; i += 20) {
            say("feed", Check.four(bytes, i), Check.four(bytes, i + 4), Check.four(bytes, i + 8),
                    Check.four(bytes, i + 12), Check.four(bytes, i + 16));
        }
        say("load", text.length());
        say("fault", 0);
        say("fault", 1);
        say("many", 3);
        say("many", 4);
    }

    private String spoiled(String text) {
        StringBuilder spoiled = new StringBuilder(text);
        for (int i = random.nextInt(2); i >= 0 && spoiled.length() > 0; i--) {
            int at = random.nextInt(spoiled.length());
            String pieces = " ;[]<=>019az#\n\0\t\u00e9";
            switch (random.nextInt(4)) {
                case 0:
                    spoiled.deleteCharAt(at);
                    break;
                case 1:
                    spoiled.insert(at, pieces.charAt(random.nextInt(pieces.length())));
                    break;
                case 2:
                    spoiled.setCharAt(at, pieces.charAt(random.nextInt(pieces.length())));
                    break;
                default:
                    int end = Math.min(spoiled.length(), at + random.nextInt(12));
                    spoiled.replace(at, end, word());
                    break;
            }
        }
        return spoiled.toString();
    }

    private String word() {
        String[] words = {"bits", "parts", "code", "tag", "filter", "or", "and", "not", "ones", "number", "bit", "key",
            "far", "[", "]", ";", "000000001", "123456789012345678901234567890123456789012345678901", "bits 8;",
            "not not not not not not", "[[[[[[", "5", "99999999"};
        return " " + words[random.nextInt(words.length)] + " ";
    }

    private String text() {
        StringBuilder text = new StringBuilder();
        int width = 16;
        if (random.nextInt(5) > 0) {
            width = random.nextInt(3) == 0 ? 4 + random.nextInt(46) : 4 + random.nextInt(9);
            text.append("bits ").append(random.nextInt(40) == 0 ? random.nextInt(60) : width).append(blank()).append(';');
        }
        int parts = 2;
        if (random.nextInt(4) > 0) {
            parts = appendParts(text, width);
        }
        int lines = random.nextInt(4) == 0 ? 36 : random.nextInt(14);
        boolean filtered = false;
        for (int i = 0; i < lines; i++) {
            boolean filter = random.nextInt(lines) == 0 && (!filtered || random.nextInt(9) == 0);
            filtered |= filter;
            if (filter) {
                text.append(blank()).append("filter ");
                appendTest(text, width, parts, 0);
                text.append(blank()).append(';');
            } else {
                text.append("code ").append(fresh(width, text));
                if (random.nextInt(3) == 0) {
                    text.append(blank()).append("tag").append(blank()).append(random.nextInt(random.nextInt(9) == 0 ? 12 : 10));
                }
                text.append(blank()).append(";");
            }
        }
        return text.toString();
    }

    private String blank() {
        String[] blanks = {"", "", " ", "\n", "  "};
        return blanks[random.nextInt(blanks.length)];
    }

    private int appendParts(StringBuilder text, int width) {
        text.append("parts");
        int left = width;
        int parts = 0;
        int wanted = 1 + random.nextInt(6);
        while (left > 0) {
            int breadth = parts + 1 >= wanted ? Math.min(left, 24) : 1 + random.nextInt(Math.min(24, left));
            if (random.nextInt(60) == 0) {
                breadth += random.nextInt(3) - 1;
            }
            text.append(' ').append(breadth);
            left -= breadth;
            parts++;
            if (random.nextInt(80) == 0) {
                break;
            }
        }
        text.append(";");
        return parts;
    }

    /** Most often a code that isn't there already. */
    private String fresh(int width, StringBuilder text) {
        String bits = binary(width);
        for (int i = random.nextInt(40); i > 0 && text.indexOf(bits + " ") + text.indexOf(bits + ";") > -2; i--) {
            bits = binary(width);
        }
        return bits;
    }

    private String binary(int width) {
        StringBuilder bits = new StringBuilder();
        int style = random.nextInt(3);
        for (int i = 0; i < width; i++) {
            boolean one = style == 0 ? random.nextBoolean() : style == 1 ? random.nextInt(6) == 0 : random.nextInt(6) > 0;
            bits.append(one ? '1' : '0');
        }
        return bits.toString();
    }

    private void appendTest(StringBuilder text, int width, int parts, int depth) {
        appendSide(text, width, parts, depth);
        while (random.nextInt(3) == 0) {
            text.append(" or ");
            appendSide(text, width, parts, depth);
        }
    }

    private void appendSide(StringBuilder text, int width, int parts, int depth) {
        appendFact(text, width, parts, depth);
        while (random.nextInt(3) == 0) {
            text.append(" and ");
            appendFact(text, width, parts, depth);
        }
    }

    private void appendFact(StringBuilder text, int width, int parts, int depth) {
        int kind = depth > 7 ? 5 : random.nextInt(6);
        if (kind < 2) {
            text.append("not ");
            appendFact(text, width, parts, depth + 1);
        } else if (kind == 2) {
            text.append("[");
            appendTest(text, width, parts, depth + 1);
            text.append("]");
        } else {
            appendComparison(text, width, parts);
        }
    }

    private void appendComparison(StringBuilder text, int width, int parts) {
        int bound = 1 + random.nextInt(4);
        switch (random.nextInt(6)) {
            case 0:
                text.append("ones");
                bound = random.nextInt(width);
                break;
            case 1:
                text.append("tag");
                break;
            case 2:
                text.append("number");
                bound = random.nextInt(12);
                break;
            case 3:
                text.append("bit ").append(random.nextInt(width + (random.nextInt(20) == 0 ? 2 : 0)));
                bound = random.nextInt(2);
                break;
            case 4:
                text.append("key ").append(random.nextInt(parts + (random.nextInt(20) == 0 ? 2 : 0)));
                bound = random.nextInt(20);
                break;
            default:
                text.append("far ").append(binary(width));
                bound = random.nextInt(width);
                break;
        }
        text.append(blank()).append("<=>".charAt(random.nextInt(3))).append(blank()).append(bound);
    }

    private long answer(String name, long[] a) {
        int[] i = new int[a.length];
        for (int k = 0; k < a.length; k++) {
            i[k] = (int) a[k];
        }
        switch (name) {
            case "feed": return real.feed(i[0], i[1], i[2], i[3], i[4]);
            case "load": return real.load(i[0]);
            case "fault": return real.fault(i[0]);
            case "many": return real.many(i[0]);
            case "code": return real.code(i[0]);
            case "tagOf": return real.tagOf(i[0]);
            case "breadth": return real.breadth(i[0]);
            case "key": return real.key(i[0], i[1]);
            case "far": return real.far(i[0], a[1]);
            case "measure": return real.measure(i[0], i[1], i[2]);
            case "find": return real.find(a[0]);
            case "add": return real.add(a[0]);
            case "strike": return real.strike(i[0]);
            case "flip": return real.flip(i[0], i[1]);
            case "swap": return real.swap(i[0], i[1]);
            case "tag": return real.tag(i[0], i[1]);
            case "split": return real.split(i[0], i[1]);
            case "merge": return real.merge(i[0]);
            case "open": return real.open();
            case "undo": return real.undo();
            case "mark": return real.mark();
            case "back": return real.back();
            default: return query(name, a, i);
        }
    }

    private long query(String name, long[] a, int[] i) {
        switch (name) {
            case "budget": return real.budget(a[0], i[1], i[2]);
            case "cost": return real.cost(a[0], i[1], i[2]);
            case "near": return real.near(a[0], i[1], i[2]);
            case "ranked": return real.ranked(a[0], i[1]);
            case "grown": return real.grown(a[0], i[1], i[2]);
            case "apart": return real.apart(a[0], i[1], i[2], i[3]);
            case "pairs": return real.pairs(i[0]);
            case "pair": return real.pair(i[0], i[1], i[2]);
            case "joined": return real.joined(i[0]);
            case "closest": return real.closest(i[0]);
            case "clusters": return real.clusters(i[0], i[1]);
            case "cluster": return real.cluster(i[0], i[1], i[2]);
            case "vote": return real.vote(i[0]);
            case "like": return real.like(a[0], a[1]);
            case "ones": return real.ones(i[0]);
            case "telling": return real.telling();
            case "alike": return real.alike(i[0], i[1]);
            case "spread": return real.spread(i[0], i[1]);
            case "parted": return real.parted(i[0], i[1]);
            case "bestPart": return real.bestPart(i[0]);
            default: throw new IllegalArgumentException(name);
        }
    }
}

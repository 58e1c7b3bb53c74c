import java.util.ArrayList;
import java.util.Collections;
import java.util.Comparator;
import java.util.HashMap;
import java.util.List;
import java.util.Map;
import java.util.TreeSet;

/**
 * The document told again as plainly as can be: codes are texts of 0 and 1, the lowest bit ahead,
 * budgets are all tried, states are copied whole. It is what ModelTest compares AlikeStore with.
 */
final class NaiveStore {
    interface Test {
        boolean holds(State state, int code);
    }

    static final class Entry {
        final String bits;
        final int tag;

        Entry(String bits, int tag) {
            this.bits = bits;
            this.tag = tag;
        }
    }

    static final class State {
        int width = 16;
        List<Integer> parts = new ArrayList<>(List.of(8, 8));
        List<Entry> entries = new ArrayList<>();
        Test test = null;

        State copy() {
            State other = new State();
            other.width = width;
            other.parts = new ArrayList<>(parts);
            other.entries = new ArrayList<>(entries);
            other.test = test;
            return other;
        }

        boolean has(String bits) {
            return entries.stream().anyMatch(e -> e.bits.equals(bits));
        }

        String slice(String bits, int part) {
            int start = 0;
            for (int i = 0; i < part; i++) {
                start += parts.get(i);
            }
            return bits.substring(start, start + parts.get(part));
        }
    }

    private static final class Refusal extends RuntimeException {
        private static final long serialVersionUID = 1L;
        final int status;

        Refusal(int status) {
            this.status = status;
        }
    }

    State now = new State();
    final List<State> acts = new ArrayList<>();
    final List<State> marks = new ArrayList<>();
    final List<Integer> tape = new ArrayList<>();
    int status = 0;
    int fault = -1;
    int place = -1;

    /** Any call by its name; its STATUS stands in status then. */
    long call(String name, long... a) {
        switch (name) {
            case "status":
                return status;
            case "fault":
                return a[0] == 0 ? fault : a[0] == 1 ? place : -1;
            case "feed":
                return feed(a);
            default:
                break;
        }
        try {
            long answer = answer(name, a);
            status = 0;
            return answer;
        } catch (Refusal refusal) {
            status = refusal.status;
            return -1;
        }
    }

    private long feed(long[] a) {
        if (tape.size() + 20 > 900) {
            return -1;
        }
        for (long four : a) {
            for (int shift = 24; shift >= 0; shift -= 8) {
                tape.add((int) (four >> shift & 255));
            }
        }
        return tape.size();
    }

    private long answer(String name, long[] a) {
        switch (name) {
            case "load":
                return load(a[0]);
            case "many":
                return many((int) a[0]);
            case "code":
                need(isCode(a[0]), 2);
                return number(now.entries.get((int) a[0]).bits);
            case "tagOf":
                need(isCode(a[0]), 2);
                return now.entries.get((int) a[0]).tag;
            case "breadth":
                need(isPart(a[0]), 2);
                return now.parts.get((int) a[0]);
            case "key":
                need(isCode(a[0]) && isPart(a[1]), 2);
                return number(now.slice(bits(a[0]), (int) a[1]));
            case "far":
                need(isNumber(a[1]), 1);
                need(isCode(a[0]), 2);
                return far(bits(a[0]), text(a[1]));
            case "measure":
                need(a[2] >= 0 && a[2] <= 3, 1);
                need(isCode(a[0]) && isCode(a[1]), 2);
                return measure(bits(a[0]), bits(a[1]), (int) a[2]);
            case "find":
                need(isNumber(a[0]), 1);
                for (int i = 0; i < now.entries.size(); i++) {
                    if (bits(i).equals(text(a[0]))) {
                        return i;
                    }
                }
                throw new Refusal(5);
            case "add":
            case "strike":
            case "flip":
            case "swap":
            case "tag":
            case "split":
            case "merge":
            case "open":
                return act(name, a);
            case "undo":
                need(!acts.isEmpty(), 5);
                now = acts.remove(acts.size() - 1);
                return acts.size();
            case "mark":
                need(marks.size() < 3, 3);
                marks.add(now.copy());
                return marks.size();
            case "back":
                need(!marks.isEmpty(), 5);
                now = marks.remove(marks.size() - 1);
                acts.clear();
                return marks.size();
            case "budget":
                need(isNumber(a[0]) && isRadius(a[1]), 1);
                need(isPart(a[2]), 2);
                return budgets(text(a[0]), (int) a[1], now.parts, counting()).get((int) a[2]);
            case "cost":
                need(isNumber(a[0]) && a[2] >= -1 && !(isPart(a[1]) && a[2] > now.parts.get((int) a[1])), 1);
                need(isPart(a[1]), 2);
                return cost(text(a[0]), now.parts, (int) a[1], (int) a[2], counting());
            case "near":
                need(isNumber(a[0]) && isRadius(a[1]) && a[2] >= 0 && a[2] <= 4, 1);
                return near(text(a[0]), (int) a[1], (int) a[2]);
            case "ranked":
                need(isNumber(a[0]) && a[1] >= 0, 1);
                need(a[1] < counting().size(), 5);
                return ranked(text(a[0]), counting()).get((int) a[1]);
            case "grown":
                need(isNumber(a[0]) && a[1] >= 1 && (a[2] == 0 || a[2] == 1), 1);
                need(counting().size() >= a[1], 6);
                return grown(text(a[0]), (int) a[1], (int) a[2]);
            case "apart":
                need(isNumber(a[0]) && isRadius(a[1]) && a[2] >= 1 && a[2] <= 32 && a[3] >= 0, 1);
                List<Integer> taken = apart(text(a[0]), (int) a[1], (int) a[2]);
                need(a[3] < taken.size(), 5);
                return taken.get((int) a[3]);
            default:
                return among(name, a);
        }
    }

    private long among(String name, long[] a) {
        List<Integer> set = counting();
        switch (name) {
            case "pairs":
                need(isRadius(a[0]), 1);
                return pairs((int) a[0]).size();
            case "pair":
                need(isRadius(a[0]) && a[1] >= 0 && a[2] >= 0 && a[2] <= 2, 1);
                List<int[]> pairs = pairs((int) a[0]);
                need(a[1] < pairs.size(), 5);
                return pairs.get((int) a[1])[(int) a[2]];
            case "joined":
                need(isRadius(a[0]), 1);
                long joined = 0;
                for (int i : set) {
                    List<Integer> greater = new ArrayList<>(set);
                    greater.removeIf(j -> j <= i);
                    joined += least(bits(i), (int) a[0], now.parts, greater);
                }
                return joined;
            case "closest":
                need(a[0] >= 0 && a[0] <= 2, 1);
                List<int[]> all = pairs(now.width);
                need(!all.isEmpty(), 5);
                return Collections.min(all, Comparator.comparingInt(p -> p[2]))[(int) a[0]];
            case "clusters":
                need(isRadius(a[0]) && a[1] >= 0 && a[1] <= 2, 1);
                return clusters((int) a[0], (int) a[1]);
            case "cluster":
                need(isRadius(a[1]) && a[2] >= 0 && a[2] <= 2, 1);
                need(isCode(a[0]), 2);
                need(set.contains((int) a[0]), 6);
                return cluster((int) a[0], (int) a[1], (int) a[2]);
            case "vote":
                return vote((int) a[0]);
            case "like":
                need(isNumber(a[0]) && isNumber(a[1]), 1);
                set.removeIf(i -> (number(bits(i)) & a[0]) != (a[1] & a[0]));
                return asSet(set);
            case "ones":
                need(isBit(a[0]), 1);
                return set.stream().filter(i -> bits(i).charAt((int) a[0]) == '1').count();
            case "telling":
                return telling(set);
            case "alike":
                need(isBit(a[0]) && isBit(a[1]), 1);
                return set.stream().filter(i -> bits(i).charAt((int) a[0]) == bits(i).charAt((int) a[1])).count();
            case "spread":
                need(a[1] == 0 || a[1] == 1, 1);
                need(isPart(a[0]), 2);
                Map<String, Integer> keys = new HashMap<>();
                set.forEach(i -> keys.merge(now.slice(bits(i), (int) a[0]), 1, Integer::sum));
                return a[1] == 0 ? keys.size() : keys.values().stream().mapToInt(v -> v).max().orElse(0);
            case "parted":
                need(isRadius(a[1]) && a[0] >= 1 && a[0] <= 24, 1);
                need(now.width - a[0] >= 1 && now.width - a[0] <= 24, 6);
                return parted((int) a[0], (int) a[1]);
            case "bestPart":
                need(isRadius(a[0]), 1);
                int best = 0;
                for (int b = 24; b >= 1; b--) {
                    boolean can = now.width - b >= 1 && now.width - b <= 24;
                    if (can && (best == 0 || parted(b, (int) a[0]) <= parted(best, (int) a[0]))) {
                        best = b;
                    }
                }
                return best;
            default:
                throw new IllegalArgumentException(name);
        }
    }

    // ---- what can be

    private static void need(boolean holds, int otherwise) {
        if (!holds) {
            throw new Refusal(otherwise);
        }
    }

    private boolean isNumber(long number) {
        return number >= 0 && Long.toBinaryString(number).length() <= now.width;
    }

    private boolean isCode(long code) {
        return code >= 0 && code < now.entries.size();
    }

    private boolean isPart(long part) {
        return part >= 0 && part < now.parts.size();
    }

    private boolean isBit(long bit) {
        return bit >= 0 && bit < now.width;
    }

    private boolean isRadius(long radius) {
        return radius >= 0 && radius <= now.width;
    }

    // ---- numbers as texts

    private String bits(long code) {
        return now.entries.get((int) code).bits;
    }

    private String text(long number) {
        StringBuilder text = new StringBuilder();
        for (int i = 0; i < now.width; i++) {
            text.append(number >> i & 1);
        }
        return text.toString();
    }

    static long number(String bits) {
        return Long.parseLong(new StringBuilder(bits).reverse().toString(), 2);
    }

    static int far(String one, String other) {
        int far = 0;
        for (int i = 0; i < one.length(); i++) {
            far += one.charAt(i) == other.charAt(i) ? 0 : 1;
        }
        return far;
    }

    private static int measure(String one, String other, int what) {
        StringBuilder differing = new StringBuilder();
        for (int i = 0; i < one.length(); i++) {
            differing.append(one.charAt(i) == other.charAt(i) ? ' ' : 'x');
        }
        String trimmed = differing.toString().trim();
        if (trimmed.isEmpty()) {
            return 0;
        }
        String[] runs = trimmed.split(" +");
        switch (what) {
            case 0:
                return far(one, other);
            case 1:
                return runs.length;
            case 2:
                return trimmed.length();
            default:
                int longest = 0;
                for (String run : runs) {
                    longest = Math.max(longest, run.length());
                }
                return longest;
        }
    }

    private static int asSet(List<Integer> codes) {
        int set = 0;
        for (int code : codes) {
            set |= 1 << code;
        }
        return set;
    }

    private List<Integer> counting() {
        List<Integer> set = new ArrayList<>();
        for (int i = 0; i < now.entries.size(); i++) {
            if (now.test == null || now.test.holds(now, i)) {
                set.add(i);
            }
        }
        return set;
    }

    private long many(int what) {
        switch (what) {
            case 0:
                return now.width;
            case 1:
                return now.parts.size();
            case 2:
                return now.entries.size();
            case 3:
                return counting().size();
            case 4:
                return asSet(counting());
            case 5:
                return acts.size();
            case 6:
                return marks.size();
            case 7:
                return now.test == null ? 0 : 1;
            default:
                throw new Refusal(1);
        }
    }

    // ---- ACTS

    private void keep(State then) {
        acts.add(then);
        if (acts.size() > 12) {
            acts.remove(0);
        }
    }

    private long load(long n) {
        need(n >= 0 && n <= tape.size(), 1);
        StringBuilder text = new StringBuilder();
        tape.subList(0, (int) n).forEach(b -> text.append((char) (int) b));
        tape.clear();
        NaiveReader reader = new NaiveReader(text.toString());
        State read = reader.read();
        fault = reader.fault;
        place = reader.place;
        need(fault == 0, 9);
        keep(now);
        now = read;
        return now.entries.size();
    }

    private long act(String name, long[] a) {
        State next = now.copy();
        long answer = change(next, name, a);
        keep(now);
        now = next;
        return answer;
    }

    private long change(State next, String name, long[] a) {
        int x = a.length > 0 ? (int) a[0] : 0;
        switch (name) {
            case "add":
                need(isNumber(a[0]), 1);
                need(next.entries.size() < 32, 3);
                need(!next.has(text(a[0])), 4);
                next.entries.add(new Entry(text(a[0]), 0));
                return next.entries.size() - 1;
            case "strike":
                need(isCode(x), 2);
                next.entries.remove(x);
                return next.entries.size();
            case "flip":
                need(isBit(a[1]), 1);
                need(isCode(x), 2);
                StringBuilder turned = new StringBuilder(bits(x));
                turned.setCharAt((int) a[1], turned.charAt((int) a[1]) == '1' ? '0' : '1');
                need(!next.has(turned.toString()), 4);
                next.entries.set(x, new Entry(turned.toString(), next.entries.get(x).tag));
                return turned.charAt((int) a[1]) - '0';
            case "swap":
                need(isBit(x) && isBit(a[1]), 1);
                need(x != a[1], 4);
                return exchange(next, x, (int) a[1]);
            case "tag":
                need(a[1] >= 0 && a[1] <= 9, 1);
                need(isCode(x), 2);
                Entry old = next.entries.get(x);
                need(old.tag != a[1], 4);
                next.entries.set(x, new Entry(old.bits, (int) a[1]));
                return old.tag;
            case "split":
                need(a[1] >= 1 && !(isPart(x) && a[1] >= next.parts.get(x)), 1);
                need(isPart(x), 2);
                need(next.parts.size() < 6, 3);
                next.parts.add(x + 1, next.parts.get(x) - (int) a[1]);
                next.parts.set(x, (int) a[1]);
                return next.parts.size();
            case "merge":
                need(isPart(x) && isPart(x + 1L), 2);
                need(next.parts.get(x) + next.parts.get(x + 1) <= 24, 6);
                next.parts.set(x, next.parts.get(x) + next.parts.remove(x + 1));
                return next.parts.size();
            default:
                need(next.test != null, 5);
                next.test = null;
                return 0;
        }
    }

    private static int exchange(State next, int bit, int other) {
        int changed = 0;
        for (int i = 0; i < next.entries.size(); i++) {
            Entry entry = next.entries.get(i);
            char[] bits = entry.bits.toCharArray();
            char kept = bits[bit];
            bits[bit] = bits[other];
            bits[other] = kept;
            Entry changedTo = new Entry(new String(bits), entry.tag);
            changed += changedTo.bits.equals(entry.bits) ? 0 : 1;
            next.entries.set(i, changedTo);
        }
        return changed;
    }

    // ---- by a number and a RADIUS

    private String slice(String bits, List<Integer> parts, int part) {
        int start = 0;
        for (int i = 0; i < part; i++) {
            start += parts.get(i);
        }
        return bits.substring(start, start + parts.get(part));
    }

    private int cost(String number, List<Integer> parts, int part, int budget, List<Integer> set) {
        int cost = 0;
        for (int i : set) {
            cost += far(slice(bits(i), parts, part), slice(number, parts, part)) <= budget ? 1 : 0;
        }
        return cost;
    }

    private List<Integer> budgets(String number, int radius, List<Integer> parts, List<Integer> set) {
        int[][] costs = new int[parts.size()][];
        for (int p = 0; p < parts.size(); p++) {
            costs[p] = new int[parts.get(p) + 2];
            for (int b = -1; b <= parts.get(p); b++) {
                costs[p][b + 1] = cost(number, parts, p, b, set);
            }
        }
        int[] best = new int[parts.size()];
        tryAll(costs, 0, radius + 1, 0, new int[parts.size()], best, new int[] {Integer.MAX_VALUE});
        List<Integer> budgets = new ArrayList<>();
        for (int share : best) {
            budgets.add(share - 1);
        }
        return budgets;
    }

    /** All ways are tried in the order in which the document wants them, so that the first of the least stays. */
    private static void tryAll(int[][] costs, int part, int left, int sum, int[] tried, int[] best, int[] least) {
        if (part == costs.length) {
            if (left == 0 && sum < least[0]) {
                least[0] = sum;
                System.arraycopy(tried, 0, best, 0, tried.length);
            }
            return;
        }
        for (int share = 0; share < costs[part].length && share <= left; share++) {
            tried[part] = share;
            tryAll(costs, part + 1, left - share, sum + costs[part][share], tried, best, least);
        }
    }

    private int least(String number, int radius, List<Integer> parts, List<Integer> set) {
        List<Integer> budgets = budgets(number, radius, parts, set);
        int together = 0;
        for (int p = 0; p < parts.size(); p++) {
            together += cost(number, parts, p, budgets.get(p), set);
        }
        return together;
    }

    private List<Integer> within(String number, int radius) {
        List<Integer> set = counting();
        set.removeIf(i -> far(bits(i), number) > radius);
        return set;
    }

    private int near(String number, int radius, int what) {
        List<Integer> budgets = budgets(number, radius, now.parts, counting());
        TreeSet<Integer> candidates = new TreeSet<>();
        for (int i : counting()) {
            for (int p = 0; p < now.parts.size(); p++) {
                if (far(now.slice(bits(i), p), now.slice(number, p)) <= budgets.get(p)) {
                    candidates.add(i);
                }
            }
        }
        switch (what) {
            case 0:
                return least(number, radius, now.parts, counting());
            case 1:
                return candidates.size();
            case 2:
                return within(number, radius).size();
            case 3:
                return asSet(new ArrayList<>(candidates));
            default:
                return asSet(within(number, radius));
        }
    }

    private List<Integer> ranked(String number, List<Integer> set) {
        List<Integer> order = new ArrayList<>(set);
        order.sort(Comparator.comparingInt((Integer i) -> far(bits(i), number)).thenComparing(i -> i));
        return order;
    }

    private int grown(String number, int k, int what) {
        int spent = 0;
        for (int radius = 0;; radius++) {
            spent += least(number, radius, now.parts, counting());
            if (within(number, radius).size() >= k) {
                return what == 0 ? radius : spent;
            }
        }
    }

    private List<Integer> apart(String number, int radius, int k) {
        List<Integer> order = ranked(number, within(number, radius));
        List<Integer> taken = new ArrayList<>();
        while (taken.size() < k && !order.isEmpty()) {
            Integer best = order.get(0);
            if (!taken.isEmpty()) {
                for (Integer i : order) {
                    if (gap(i, taken) > gap(best, taken)) {
                        best = i;
                    }
                }
            }
            taken.add(best);
            order.remove(best);
        }
        return taken;
    }

    private int gap(int code, List<Integer> taken) {
        return taken.stream().mapToInt(t -> far(bits(t), bits(code))).min().orElse(0);
    }

    // ---- among themselves

    private List<int[]> pairs(int radius) {
        List<int[]> pairs = new ArrayList<>();
        for (int i : counting()) {
            for (int j : counting()) {
                if (i < j && far(bits(i), bits(j)) <= radius) {
                    pairs.add(new int[] {i, j, far(bits(i), bits(j))});
                }
            }
        }
        return pairs;
    }

    /** The label of each code that counts: the least that it comes to. */
    private Map<Integer, Integer> labels(int radius) {
        Map<Integer, Integer> labels = new HashMap<>();
        counting().forEach(i -> labels.put(i, i));
        boolean changed = true;
        while (changed) {
            changed = false;
            for (int[] pair : pairs(radius)) {
                int least = Math.min(labels.get(pair[0]), labels.get(pair[1]));
                changed |= labels.put(pair[0], least) != least;
                changed |= labels.put(pair[1], least) != least;
            }
        }
        return labels;
    }

    private int clusters(int radius, int what) {
        Map<Integer, Integer> labels = labels(radius);
        TreeSet<Integer> names = new TreeSet<>(labels.values());
        if (what == 0) {
            return names.size();
        }
        int most = 0;
        int which = -1;
        for (int name : names) {
            int size = Collections.frequency(labels.values(), name);
            if (size > most) {
                most = size;
                which = name;
            }
        }
        need(what == 1 || which >= 0, 5);
        return what == 1 ? most : which;
    }

    private int cluster(int code, int radius, int what) {
        Map<Integer, Integer> labels = labels(radius);
        int name = labels.get(code);
        if (what == 0) {
            return name;
        }
        List<Integer> members = new ArrayList<>(new TreeSet<>(labels.keySet()));
        members.removeIf(i -> labels.get(i) != name);
        if (what == 1) {
            return members.size();
        }
        return Collections.min(members, Comparator.comparingInt(
                i -> members.stream().mapToInt(j -> far(bits(i), bits(j))).sum()));
    }

    private long vote(int set) {
        for (int i = now.entries.size(); i < 32; i++) {
            need((set >>> i & 1) == 0, 1);
        }
        StringBuilder chosen = new StringBuilder();
        for (int bit = 0; bit < now.width; bit++) {
            int balance = 0;
            for (int i = 0; i < now.entries.size(); i++) {
                if ((set >>> i & 1) == 1) {
                    balance += bits(i).charAt(bit) == '1' ? 1 : -1;
                }
            }
            chosen.append(balance > 0 ? '1' : '0');
        }
        return number(chosen.toString());
    }

    private int telling(List<Integer> set) {
        List<Integer> all = new ArrayList<>();
        for (int bit = 0; bit < now.width; bit++) {
            all.add(bit);
        }
        return Collections.min(all, Comparator.comparingInt(bit -> {
            int balance = 0;
            for (int i : set) {
                balance += bits(i).charAt(bit) == '1' ? 1 : -1;
            }
            return Math.abs(balance);
        }));
    }

    private int parted(int breadth, int radius) {
        int together = 0;
        for (int i : counting()) {
            together += least(bits(i), radius, List.of(breadth, now.width - breadth), counting());
        }
        return together;
    }
}

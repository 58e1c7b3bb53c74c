import java.util.ArrayList;
import java.util.List;
import java.util.regex.Matcher;
import java.util.regex.Pattern;

/** Reads a STORE by its grammar, with a regular expression for TOKENS and an exception for a FAULT. */
final class NaiveReader {
    private static final Pattern TOKEN = Pattern.compile("[a-z]+|[0-9]+|[<=>\\[\\];]");

    private static final class Fault extends RuntimeException {
        private static final long serialVersionUID = 1L;
        final int kind;

        Fault(int kind) {
            this.kind = kind;
        }
    }

    private final List<String> tokens = new ArrayList<>();
    private final List<Integer> places = new ArrayList<>();
    private int at = 0;
    private NaiveStore.State state = new NaiveStore.State();
    int fault = 0;
    int place = -1;

    NaiveReader(String text) {
        int i = 0;
        Matcher matcher = TOKEN.matcher(text);
        while (i < text.length()) {
            if (text.charAt(i) == ' ' || text.charAt(i) == '\n') {
                i++;
                continue;
            }
            places.add(i);
            matcher.region(i, text.length());
            String token = matcher.lookingAt() ? matcher.group() : "?";
            tokens.add(token.matches("[0-9]{49,}") ? "?" : token);
            i += token.length();
        }
        places.add(text.length());
        tokens.add("");
    }

    NaiveStore.State read() {
        try {
            readStore();
        } catch (Fault found) {
            fault = found.kind;
            place = places.get(at);
        }
        return state;
    }

    private void need(boolean holds, int otherwise) {
        if (!holds) {
            throw new Fault(tokens.get(at).equals("?") ? 1 : otherwise);
        }
    }

    private boolean is(String token) {
        return tokens.get(at).equals(token);
    }

    private boolean takes(String token) {
        if (is(token)) {
            at++;
            return true;
        }
        return false;
    }

    private void must(String token) {
        need(is(token), 2);
        at++;
    }

    private int number(int least, int most) {
        need(tokens.get(at).matches("[0-9]+"), 2);
        need(tokens.get(at).length() <= 8, 3);
        int value = Integer.parseInt(tokens.get(at));
        need(value >= least && value <= most, 4);
        at++;
        return value;
    }

    private String binary(boolean fresh) {
        need(tokens.get(at).matches("[0-9]+"), 2);
        need(tokens.get(at).matches("[01]{" + state.width + "}"), 3);
        String bits = new StringBuilder(tokens.get(at)).reverse().toString();
        need(!fresh || !state.has(bits), 5);
        at++;
        return bits;
    }

    private void readStore() {
        if (takes("bits")) {
            state.width = number(4, 48);
            must(";");
        }
        state.parts = new ArrayList<>(List.of((state.width + 1) / 2, state.width / 2));
        if (takes("parts")) {
            state.parts.clear();
            int left = state.width;
            do {
                int breadth = number(1, state.parts.size() == 6 ? 0 : Math.min(24, left));
                state.parts.add(breadth);
                left -= breadth;
            } while (tokens.get(at).matches("[0-9]+"));
            need(!is(";") || left == 0, 4);
            must(";");
        }
        while (!is("")) {
            readLine();
        }
    }

    private void readLine() {
        if (is("code")) {
            need(state.entries.size() < 32, 6);
            at++;
            String bits = binary(true);
            int tag = takes("tag") ? number(0, 9) : 0;
            state.entries.add(new NaiveStore.Entry(bits, tag));
        } else {
            need(is("filter"), 2);
            need(state.test == null, 5);
            at++;
            state.test = test(0);
        }
        must(";");
    }

    private NaiveStore.Test test(int depth) {
        NaiveStore.Test left = side(depth);
        while (takes("or")) {
            NaiveStore.Test first = left;
            NaiveStore.Test second = side(depth);
            left = (s, c) -> first.holds(s, c) || second.holds(s, c);
        }
        return left;
    }

    private NaiveStore.Test side(int depth) {
        NaiveStore.Test left = fact(depth);
        while (takes("and")) {
            NaiveStore.Test first = left;
            NaiveStore.Test second = fact(depth);
            left = (s, c) -> first.holds(s, c) && second.holds(s, c);
        }
        return left;
    }

    private NaiveStore.Test fact(int depth) {
        if (is("not") || is("[")) {
            need(depth < 6, 6);
        }
        if (takes("not")) {
            NaiveStore.Test inner = fact(depth + 1);
            return (s, c) -> !inner.holds(s, c);
        }
        if (takes("[")) {
            NaiveStore.Test inner = test(depth + 1);
            must("]");
            return inner;
        }
        return comparison();
    }

    private interface Value {
        long of(NaiveStore.State state, int code);
    }

    private NaiveStore.Test comparison() {
        Value value = value();
        need(is("<") || is("=") || is(">"), 2);
        String sign = tokens.get(at++);
        int bound = number(0, 99999999);
        return (s, c) -> {
            int compared = Long.compare(value.of(s, c), bound);
            return sign.equals("<") ? compared < 0 : sign.equals("=") ? compared == 0 : compared > 0;
        };
    }

    private Value value() {
        if (takes("ones")) {
            return (s, c) -> s.entries.get(c).bits.replace("0", "").length();
        }
        if (takes("tag")) {
            return (s, c) -> s.entries.get(c).tag;
        }
        if (takes("number")) {
            return (s, c) -> c;
        }
        if (takes("bit")) {
            int bit = number(0, state.width - 1);
            return (s, c) -> s.entries.get(c).bits.charAt(bit) - '0';
        }
        if (takes("key")) {
            int part = number(0, state.parts.size() - 1);
            return (s, c) -> part >= s.parts.size() ? 0 : NaiveStore.number(s.slice(s.entries.get(c).bits, part));
        }
        need(is("far"), 2);
        at++;
        String from = binary(false);
        return (s, c) -> NaiveStore.far(s.entries.get(c).bits, from);
    }
}

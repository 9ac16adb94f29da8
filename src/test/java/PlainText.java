import java.util.List;
import java.util.Set;
import java.util.function.ToIntFunction;

/** Reads a text as the document says it, all tokens first, into functions of the six names. */
final class PlainText {
    static final class Fault extends Exception {
        private static final long serialVersionUID = 1L;
        final int place;

        Fault(int place) {
            this.place = place;
        }
    }

    private static final List<String> NAMES = List.of("far", "minute", "fog", "high", "one", "thing");
    private static final Set<String> KEYS = Set.of("sees", "worth", "sleep", "or", "and", "not");

    private final String text;
    private int at = 0;
    private int open = 0;

    PlainText(List<Integer> bytes) {
        StringBuilder b = new StringBuilder();
        for (int i : bytes) {
            b.append((char) i);
        }
        text = b.toString();
    }

    Plain.Rule whole() throws Fault {
        ToIntFunction<int[]> sees = part("sees");
        ToIntFunction<int[]> worth = part("worth");
        ToIntFunction<int[]> sleep = part("sleep");
        if (!peek().isEmpty()) {
            throw new Fault(at);
        }
        return new Plain.Rule(sees, worth, sleep);
    }

    private ToIntFunction<int[]> part(String key) throws Fault {
        want(key);
        ToIntFunction<int[]> e = or();
        want(";");
        return e;
    }

    /** The token at hand; empty at the end; at moves over blanks alone. */
    private String peek() {
        while (at < text.length() && (text.charAt(at) == 32 || text.charAt(at) == 10)) {
            at++;
        }
        int end = at;
        while (end < text.length() && text.substring(at, end + 1).matches("[a-z]+|[0-9]+|[();+*<=-]")) {
            end++;
        }
        // A byte that begins no token is handed out as it is, and stands nowhere.
        return end == at && at < text.length() ? text.substring(at, at + 1) : text.substring(at, end);
    }

    private boolean take(String token) {
        if (!peek().equals(token)) {
            return false;
        }
        at += token.length();
        return true;
    }

    private void want(String token) throws Fault {
        if (!take(token)) {
            throw new Fault(at);
        }
    }

    private void opens() throws Fault {
        if (open == 5) {
            throw new Fault(at);
        }
        open++;
    }

    private ToIntFunction<int[]> or() throws Fault {
        ToIntFunction<int[]> left = and();
        while (take("or")) {
            ToIntFunction<int[]> a = left;
            ToIntFunction<int[]> b = and();
            left = n -> a.applyAsInt(n) != 0 | b.applyAsInt(n) != 0 ? 1 : 0;
        }
        return left;
    }

    private ToIntFunction<int[]> and() throws Fault {
        ToIntFunction<int[]> left = not();
        while (take("and")) {
            ToIntFunction<int[]> a = left;
            ToIntFunction<int[]> b = not();
            left = n -> a.applyAsInt(n) != 0 & b.applyAsInt(n) != 0 ? 1 : 0;
        }
        return left;
    }

    private ToIntFunction<int[]> not() throws Fault {
        if (peek().equals("not")) {
            opens();
            take("not");
            ToIntFunction<int[]> a = not();
            open--;
            return n -> a.applyAsInt(n) == 0 ? 1 : 0;
        }
        ToIntFunction<int[]> a = sum();
        if (take("<")) {
            ToIntFunction<int[]> b = sum();
            return n -> a.applyAsInt(n) < b.applyAsInt(n) ? 1 : 0;
        }
        if (take("=")) {
            ToIntFunction<int[]> b = sum();
            return n -> a.applyAsInt(n) == b.applyAsInt(n) ? 1 : 0;
        }
        return a;
    }

    private ToIntFunction<int[]> sum() throws Fault {
        ToIntFunction<int[]> left = term();
        while (true) {
            ToIntFunction<int[]> a = left;
            if (take("+")) {
                ToIntFunction<int[]> b = term();
                left = n -> a.applyAsInt(n) + b.applyAsInt(n);
            } else if (take("-")) {
                ToIntFunction<int[]> b = term();
                left = n -> a.applyAsInt(n) - b.applyAsInt(n);
            } else {
                return left;
            }
        }
    }

    private ToIntFunction<int[]> term() throws Fault {
        ToIntFunction<int[]> left = one();
        while (take("*")) {
            ToIntFunction<int[]> a = left;
            ToIntFunction<int[]> b = one();
            left = n -> a.applyAsInt(n) * b.applyAsInt(n);
        }
        return left;
    }

    private ToIntFunction<int[]> one() throws Fault {
        String token = peek();
        if (token.matches("[0-9]{1,4}")) {
            take(token);
            int v = Integer.parseInt(token);
            return n -> v;
        }
        if (NAMES.contains(token) && !KEYS.contains(token)) {
            take(token);
            int name = NAMES.indexOf(token);
            return n -> n[name];
        }
        if (token.equals("-")) {
            opens();
            take("-");
            ToIntFunction<int[]> a = one();
            open--;
            return n -> -a.applyAsInt(n);
        }
        if (token.equals("(")) {
            opens();
            take("(");
            ToIntFunction<int[]> a = or();
            want(")");
            open--;
            return a;
        }
        throw new Fault(at);
    }
}

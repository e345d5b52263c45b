import java.util.ArrayDeque;
import java.util.ArrayList;
import java.util.Deque;
import java.util.List;
import java.util.function.ToIntFunction;

/** A law's text read another way than the class does: faults by a table of states, meaning by closures. */
final class OracleLaw {
    static final class Refused extends RuntimeException {
        private static final long serialVersionUID = 1L;
    }

    private record Clause(char letter, ToIntFunction<int[]> span, ToIntFunction<int[]> condition) { }

    private static final String LETTERS = "nfcuvpgxkwiqht";

    private final String text;
    private int at = 0;
    private final List<Clause> clauses = new ArrayList<>();

    /** The text has no fault. */
    OracleLaw(String text) {
        this.text = text;
        while (at < text.length()) {
            char letter = text.charAt(at++);
            ToIntFunction<int[]> span = letter == 'y' ? sum() : f -> 0;
            at++;
            ToIntFunction<int[]> condition = condition();
            at += 2;
            clauses.add(new Clause(letter, span, condition));
        }
    }

    static OracleLaw none() {
        return new OracleLaw("");
    }

    int size() {
        return clauses.size();
    }

    boolean any(char letter, int[] facts) {
        return clauses.stream().anyMatch(c -> c.letter == letter && holds(c, facts));
    }

    int days(int[] facts) {
        for (Clause c : clauses) {
            if (c.letter == 'y' && holds(c, facts)) {
                try {
                    return Math.min(1000, Math.max(0, c.span.applyAsInt(facts)));
                } catch (Refused r) {
                    return 0;
                }
            }
        }
        return 0;
    }

    private static boolean holds(Clause c, int[] facts) {
        try {
            return c.condition.applyAsInt(facts) == 1;
        } catch (Refused r) {
            return false;
        }
    }

    private char peek() {
        return at < text.length() ? text.charAt(at) : (char) 0;
    }

    private ToIntFunction<int[]> condition() {
        ToIntFunction<int[]> left = part();
        if (peek() == '|') {
            at++;
            ToIntFunction<int[]> first = left;
            ToIntFunction<int[]> rest = condition();
            return f -> first.applyAsInt(f) == 1 || rest.applyAsInt(f) == 1 ? 1 : 0;
        }
        return left;
    }

    private ToIntFunction<int[]> part() {
        ToIntFunction<int[]> left = piece();
        if (peek() == '&') {
            at++;
            ToIntFunction<int[]> rest = part();
            return f -> left.applyAsInt(f) == 1 && rest.applyAsInt(f) == 1 ? 1 : 0;
        }
        return left;
    }

    private ToIntFunction<int[]> piece() {
        if (peek() == '!') {
            at++;
            ToIntFunction<int[]> inner = piece();
            return f -> 1 - inner.applyAsInt(f);
        }
        if (peek() == '(') {
            at++;
            ToIntFunction<int[]> inner = condition();
            at++;
            return inner;
        }
        ToIntFunction<int[]> left = sum();
        char sign = text.charAt(at++);
        ToIntFunction<int[]> right = sum();
        return f -> {
            int order = Integer.compare(left.applyAsInt(f), right.applyAsInt(f));
            return order == (sign == '<' ? -1 : sign == '>' ? 1 : 0) ? 1 : 0;
        };
    }

    private ToIntFunction<int[]> sum() {
        ToIntFunction<int[]> all = product();
        while (peek() == '+' || peek() == '-') {
            char sign = text.charAt(at++);
            ToIntFunction<int[]> left = all;
            ToIntFunction<int[]> right = product();
            all = f -> sign == '+' ? left.applyAsInt(f) + right.applyAsInt(f) : left.applyAsInt(f) - right.applyAsInt(f);
        }
        return all;
    }

    private ToIntFunction<int[]> product() {
        ToIntFunction<int[]> all = factor();
        while (peek() == '*' || peek() == '/' || peek() == '%') {
            char sign = text.charAt(at++);
            ToIntFunction<int[]> left = all;
            ToIntFunction<int[]> right = factor();
            all = f -> multiply(sign, left.applyAsInt(f), right.applyAsInt(f));
        }
        return all;
    }

    private static int multiply(char sign, int a, int b) {
        if (sign == '*') {
            return a * b;
        }
        if (b == 0) {
            throw new Refused();
        }
        return sign == '/' ? a / b : a % b;
    }

    private ToIntFunction<int[]> factor() {
        char sign = text.charAt(at);
        if (sign == '[') {
            at++;
            ToIntFunction<int[]> inner = sum();
            at++;
            return inner;
        }
        if (Character.isDigit(sign)) {
            int from = at;
            while (Character.isDigit(peek())) {
                at++;
            }
            int value = Integer.parseInt(text.substring(from, at));
            return f -> value;
        }
        at++;
        return f -> f[sign];
    }

    private enum State { CLAUSE, BRACKET, PIECE, FACTOR, DIGITS, BEHIND_FACTOR, BEHIND_PIECE, BEHIND_CLAUSE }

    /** 0, or the fault as law() tells it. */
    static int faultOf(String text) {
        return new Faults(text).find();
    }

    private static final class Faults {
        private final String text;
        private State state = State.CLAUSE;
        private final Deque<Character> open = new ArrayDeque<>();
        private int side = 0;
        private int digits = 0;
        private int clauses = 0;

        Faults(String text) {
            this.text = text;
        }

        int find() {
            for (int i = 0; i <= text.length(); i++) {
                int fault = step(i < text.length() ? text.charAt(i) : '\n');
                if (fault == 9) {
                    return 0;
                }
                if (fault != 0) {
                    return -1000 * fault - i;
                }
            }
            throw new IllegalStateException(text);
        }

        private int open(char sign, State next) {
            if (open.size() == 6) {
                return 5;
            }
            open.push(sign);
            return go(next);
        }

        private int go(State next) {
            state = next;
            return 0;
        }

        private int step(char c) {
            switch (state) {
                case CLAUSE:
                    if ("bsy".indexOf(c) < 0) {
                        return 1;
                    }
                    if (++clauses == 13) {
                        return 4;
                    }
                    side = 0;
                    return go(c == 'y' ? State.FACTOR : State.BRACKET);
                case BRACKET:
                    return c == '(' ? open(c, State.PIECE) : 1;
                case PIECE:
                    if (c == '!' || c == '(') {
                        return open(c, State.PIECE);
                    }
                    side = 1;
                    return factor(c);
                case FACTOR:
                    return factor(c);
                case DIGITS:
                    if (c >= '0' && c <= '9') {
                        return ++digits > 5 ? 2 : 0;
                    }
                    return behindFactor(c);
                case BEHIND_FACTOR:
                    return behindFactor(c);
                case BEHIND_PIECE:
                    return behindPiece(c);
                default:
                    return c == ';' ? go(State.CLAUSE) : c == '\n' ? 9 : 1;
            }
        }

        private int factor(char c) {
            if (c == '[') {
                return open(c, State.FACTOR);
            }
            if (c >= '0' && c <= '9') {
                digits = 1;
                return go(State.DIGITS);
            }
            return LETTERS.indexOf(c) >= 0 ? go(State.BEHIND_FACTOR) : 1;
        }

        private int behindFactor(char c) {
            if ("+-*/%".indexOf(c) >= 0) {
                return go(State.FACTOR);
            }
            if (!open.isEmpty() && open.peek() == '[') {
                if (c != ']') {
                    return 1;
                }
                open.pop();
                return go(State.BEHIND_FACTOR);
            }
            if (side == 0) {
                return c == '(' ? open(c, State.PIECE) : 1;
            }
            if (side == 1) {
                side = 2;
                return "<>=".indexOf(c) >= 0 ? go(State.FACTOR) : 1;
            }
            return behindPiece(c);
        }

        private int behindPiece(char c) {
            while (open.peek() == '!') {
                open.pop();
            }
            if (c == '&' || c == '|') {
                return go(State.PIECE);
            }
            if (c != ')') {
                return 1;
            }
            open.pop();
            return go(open.isEmpty() ? State.BEHIND_CLAUSE : State.BEHIND_PIECE);
        }
    }
}

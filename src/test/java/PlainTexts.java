import java.util.ArrayDeque;
import java.util.ArrayList;
import java.util.Arrays;
import java.util.Deque;
import java.util.HashMap;
import java.util.HashSet;
import java.util.List;
import java.util.Map;
import java.util.Set;

/**
 * Texts in another way than the class reads them: faults by a stack of what is yet to come, values
 * by walking over the tokens. Slow, and only there to be compared with.
 */
final class PlainTexts {

    record Token(String sign, int at) { }

    private static final List<String> NAMES =
        Arrays.asList("me", "kept", "gotleft", "gotright", "bell", "hour", "first", "rooms");
    private static final List<String> COMPARISONS = Arrays.asList("<", "<=", ">", ">=", "=", "#");

    private static final Map<String, List<Token>> READ = new HashMap<>();

    /** The tokens, and one of no signs at the end. */
    static List<Token> tokens(String text) {
        List<Token> all = new ArrayList<>();
        int at = 0;
        while (at < text.length()) {
            int from = at;
            char sign = text.charAt(at);
            at++;
            if (sign == ' ' || sign == '\n') {
                continue;
            }
            String kind = kindOf(sign);
            if (!kind.isEmpty()) {
                while (at < text.length() && kindOf(text.charAt(at)).equals(kind)) {
                    at++;
                }
            } else if ((sign == '<' || sign == '>') && text.startsWith("=", at)) {
                at++;
            }
            all.add(new Token(text.substring(from, at), from));
        }
        all.add(new Token("", text.length()));
        return all;
    }

    private static String kindOf(char sign) {
        if (sign >= '0' && sign <= '9') {
            return "number";
        }
        boolean letter = sign >= 'a' && sign <= 'z' || sign >= 'A' && sign <= 'Z';
        return letter ? "word" : "";
    }

    private static boolean isNumber(String sign) {
        return !sign.isEmpty() && kindOf(sign.charAt(0)).equals("number");
    }

    /** The fault and its place; 0 and -1 without. */
    static int[] fault(String text) {
        Deque<String> due = new ArrayDeque<>();
        due.push("TEXT");
        Set<String> clauses = new HashSet<>();
        int count = 0;
        int open = 0;
        for (Token token : tokens(text)) {
            String t = token.sign();
            boolean taken = false;
            while (!taken) {
                String top = due.pop();
                switch (top) {
                    case "TEXT":
                        if (t.isEmpty()) {
                            return new int[] {0, -1};
                        }
                        if (!Arrays.asList("keep", "left", "right", "word", "rope").contains(t)) {
                            return new int[] {1, token.at()};
                        }
                        if (!t.equals("rope") && !clauses.add(t)) {
                            return new int[] {4, token.at()};
                        }
                        count++;
                        if (count > 12) {
                            return new int[] {5, token.at()};
                        }
                        pushAll(due, t.equals("rope") ? "EITHER" : "SUM", ";", "TEXT");
                        taken = true;
                        break;
                    case "EITHER": pushAll(due, "BOTH", "MORE or BOTH"); break;
                    case "BOTH": pushAll(due, "ASK", "MORE and ASK"); break;
                    case "SUM": pushAll(due, "PRODUCT", "MORE +- PRODUCT"); break;
                    case "PRODUCT": pushAll(due, "ONE", "MORE */ ONE"); break;
                    case "CLOSE": open--; break;
                    case "COMPARISON":
                        if (!COMPARISONS.contains(t)) {
                            return new int[] {1, token.at()};
                        }
                        taken = true;
                        break;
                    case "ASK":
                        if (!t.equals("not")) {
                            pushAll(due, "SUM", "COMPARISON", "SUM");
                            break;
                        }
                        pushAll(due, "ASK", "CLOSE");
                        open++;
                        taken = true;
                        break;
                    case "ONE":
                        taken = true;
                        if (isNumber(t)) {
                            if (t.replaceFirst("^0+", "").length() > 4) {
                                return new int[] {2, token.at()};
                            }
                        } else if (t.equals("(")) {
                            pushAll(due, "SUM", ")", "CLOSE");
                            open++;
                        } else if (t.equals("-")) {
                            pushAll(due, "ONE", "CLOSE");
                            open++;
                        } else if (t.equals("if")) {
                            pushAll(due, "EITHER", "?", "SUM", ":", "SUM", "end", "CLOSE");
                            open++;
                        } else if (!NAMES.contains(t)) {
                            return new int[] {1, token.at()};
                        }
                        break;
                    default:
                        if (top.startsWith("MORE ")) {
                            String[] parts = top.split(" ");
                            boolean single = !t.isEmpty() && parts[1].length() == 2 && t.length() == 1
                                && "+-*/".contains(t);
                            if (t.equals(parts[1]) || single && parts[1].contains(t)) {
                                pushAll(due, parts[2], top);
                                taken = true;
                            }
                        } else if (t.equals(top)) {
                            taken = true;
                        } else {
                            return new int[] {1, token.at()};
                        }
                        break;
                }
                if (open > 8) {
                    return new int[] {3, token.at()};
                }
            }
        }
        throw new IllegalStateException("no end");
    }

    private static void pushAll(Deque<String> due, String... parts) {
        for (int i = parts.length - 1; i >= 0; i--) {
            due.push(parts[i]);
        }
    }

    /** The values of all clauses of a kind, of a text without a fault; names in the order of NAMES. */
    static List<Integer> values(String text, String clause, int... names) {
        return new Walk(READ.computeIfAbsent(text, PlainTexts::tokens), names).clauses(clause);
    }

    private static final class Walk {
        private final List<Token> tokens;
        private final int[] names;
        private int at;

        Walk(List<Token> tokens, int[] names) {
            this.tokens = tokens;
            this.names = names;
        }

        private String peek() {
            return tokens.get(at).sign();
        }

        private String take() {
            at++;
            return tokens.get(at - 1).sign();
        }

        List<Integer> clauses(String wanted) {
            List<Integer> found = new ArrayList<>();
            while (!peek().isEmpty()) {
                String kind = take();
                int value = (int) (kind.equals("rope") ? either() : sum());
                take();
                if (kind.equals(wanted)) {
                    found.add(value);
                }
            }
            return found;
        }

        private long either() {
            long value = both();
            while (peek().equals("or")) {
                take();
                value = Math.max(value, both());
            }
            return value;
        }

        private long both() {
            long value = ask();
            while (peek().equals("and")) {
                take();
                value = Math.min(value, ask());
            }
            return value;
        }

        private long ask() {
            if (peek().equals("not")) {
                take();
                return ask() == 0 ? 1 : 0;
            }
            long left = sum();
            String sign = take();
            int order = Long.compare(left, sum());
            boolean so = order < 0 && sign.startsWith("<") || order > 0 && sign.startsWith(">")
                || order == 0 && sign.endsWith("=") || order != 0 && sign.equals("#");
            return so ? 1 : 0;
        }

        private long sum() {
            long value = product();
            while (peek().equals("+") || peek().equals("-")) {
                value = cut(value + (take().equals("+") ? 1 : -1) * product());
            }
            return value;
        }

        private long product() {
            long value = one();
            while (peek().equals("*") || peek().equals("/")) {
                boolean times = take().equals("*");
                long other = one();
                value = cut(times ? value * other : other == 0 ? 0 : value / other);
            }
            return value;
        }

        private long one() {
            String sign = take();
            if (sign.equals("-")) {
                return -one();
            }
            if (sign.equals("(")) {
                long value = sum();
                take();
                return value;
            }
            if (sign.equals("if")) {
                boolean so = either() == 1;
                take();
                long first = sum();
                take();
                long second = sum();
                take();
                return so ? first : second;
            }
            return isNumber(sign) ? Long.parseLong(sign) : names[NAMES.indexOf(sign)];
        }

        private static long cut(long value) {
            return Math.max(-1000000, Math.min(1000000, value));
        }
    }
}

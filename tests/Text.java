import java.nio.charset.StandardCharsets;
import java.util.ArrayDeque;
import java.util.ArrayList;
import java.util.List;
import java.util.Map;

/** A second reading of the texts of rules: what may stand next by what is open, and worth by the loosest sign. */
final class Text {
    private static final String NAMES = " day kind own since age finds misses hour home paper mine ";
    private static final String KEYS = " or and not if unless ";

    private final List<String> tokens = new ArrayList<>();
    private final List<Integer> places = new ArrayList<>();
    private final int length;
    /** The LINE that counted in the latest answer; -1: none. */
    int line;
    final int fault;

    Text(byte[] bytes) {
        length = bytes.length;
        split(bytes);
        fault = findFault();
    }

    /** A TOKEN that is none is told as "?". */
    private void split(byte[] bytes) {
        int i = 0;
        while (i < length) {
            int from = i;
            char c = (char) (bytes[i] & 255);
            i++;
            if (c == ' ') {
                continue;
            }
            String token = "?";
            if (c >= 'a' && c <= 'z') {
                while (i < length && bytes[i] >= 'a' && bytes[i] <= 'z') {
                    i++;
                }
                String word = new String(bytes, from, i - from, StandardCharsets.ISO_8859_1);
                token = (NAMES + KEYS).contains(" " + word + " ") ? word : "?";
            } else if (c >= '0' && c <= '9') {
                while (i < length && bytes[i] >= '0' && bytes[i] <= '9') {
                    i++;
                }
                token = i - from <= 5 ? new String(bytes, from, i - from, StandardCharsets.ISO_8859_1) : "?";
            } else if (";:<>=+-*/%()".indexOf(c) >= 0) {
                token = "" + c;
            }
            tokens.add(token);
            places.add(from);
        }
    }

    private static boolean isOperand(String token) {
        return Character.isDigit(token.charAt(0)) || NAMES.contains(" " + token + " ");
    }

    /** Walks through the TOKENS with a heap of what is open: ( ! (for not) - , and what may stand next. */
    private int findFault() {
        ArrayDeque<Character> open = new ArrayDeque<>();
        ArrayDeque<Boolean> comparedOutside = new ArrayDeque<>();
        boolean atLineStart = true, wantsOperand = true, mayDeny = true, inCondition = false, compared = false;
        for (int i = 0; i < tokens.size(); i++) {
            String t = tokens.get(i);
            int here = places.get(i);
            boolean closed = false;
            if (wantsOperand) {
                if (atLineStart && (t.equals("if") || t.equals("unless"))) {
                    inCondition = true;
                } else if (t.equals("not") && mayDeny || t.equals("-") || t.equals("(")) {
                    if (open.size() == 6) {
                        return here;
                    }
                    open.push(t.equals("not") ? '!' : t.charAt(0));
                    mayDeny = t.equals("(") || t.equals("not");
                    if (t.equals("(")) {
                        comparedOutside.push(compared);
                        compared = false;
                    }
                } else if (isOperand(t)) {
                    closed = true;
                } else {
                    return here;
                }
                atLineStart = false;
            } else if (t.length() == 1 && "+-*/%".contains(t)) {
                wantsOperand = true;
                mayDeny = false;
            } else if (t.length() == 1 && "<=>".contains(t) && !compared) {
                compared = true;
                wantsOperand = true;
                mayDeny = false;
            } else {
                while (!open.isEmpty() && open.peek() == '!') {
                    open.pop();
                }
                wantsOperand = true;
                mayDeny = true;
                if (t.equals("or") || t.equals("and")) {
                    compared = false;
                } else if (t.equals(")") && !open.isEmpty()) {
                    open.pop();
                    compared = comparedOutside.pop();
                    closed = true;
                } else if (t.equals(":") && open.isEmpty() && inCondition) {
                    inCondition = false;
                    compared = false;
                } else if (t.equals(";") && open.isEmpty() && !inCondition) {
                    atLineStart = true;
                    compared = false;
                } else {
                    return here;
                }
            }
            if (closed) {
                wantsOperand = false;
                while (!open.isEmpty() && open.peek() == '-') {
                    open.pop();
                }
            }
        }
        return wantsOperand || inCondition || open.contains('(') ? length : -1;
    }

    int answer(Map<String, Integer> names) {
        line = -1;
        int number = 0, from = 0;
        for (int i = 0; i <= tokens.size(); i++) {
            if (i == tokens.size() || tokens.get(i).equals(";")) {
                int colon = tokens.subList(from, i).indexOf(":");
                boolean counts = true;
                if (colon >= 0) {
                    boolean isSo = worth(from + 1, from + colon, names) != 0;
                    counts = isSo == tokens.get(from).equals("if");
                    from += colon + 1;
                }
                if (counts) {
                    line = number;
                    return worth(from, i, names);
                }
                number++;
                from = i + 1;
            }
        }
        return 0;
    }

    /** Parts a stretch at the last of its loosest signs; a not is looser than what it stands ahead of. */
    private int worth(int from, int to, Map<String, Integer> names) {
        String[] layers = {" or ", " and ", "!", " < = > ", " + - ", " * / % "};
        for (String layer : layers) {
            if (layer.equals("!")) {
                if (tokens.get(from).equals("not")) {
                    return worth(from + 1, to, names) == 0 ? 1 : 0;
                }
                continue;
            }
            int depth = 0;
            for (int i = to - 1; i > from; i--) {
                String t = tokens.get(i);
                depth += t.equals(")") ? 1 : t.equals("(") ? -1 : 0;
                if (depth == 0 && layer.contains(" " + t + " ") && isBehindOperand(i)) {
                    return ofTwo(t, worth(from, i, names), worth(i + 1, to, names));
                }
            }
        }
        String t = tokens.get(from);
        if (t.equals("-")) {
            return -worth(from + 1, to, names);
        }
        if (t.equals("(")) {
            return worth(from + 1, to - 1, names);
        }
        return Character.isDigit(t.charAt(0)) ? Integer.parseInt(t) : names.get(t);
    }

    private boolean isBehindOperand(int i) {
        String ahead = tokens.get(i - 1);
        return ahead.equals(")") || isOperand(ahead);
    }

    private static int ofTwo(String sign, int a, int b) {
        switch (sign) {
            case "or": return (a != 0) | (b != 0) ? 1 : 0;
            case "and": return (a != 0) & (b != 0) ? 1 : 0;
            case "<": return a < b ? 1 : 0;
            case "=": return a == b ? 1 : 0;
            case ">": return a > b ? 1 : 0;
            case "+": return a + b;
            case "-": return a - b;
            case "*": return a * b;
            case "/": return b == 0 ? 0 : a / b;
            default: return b == 0 ? 0 : a % b;
        }
    }
}

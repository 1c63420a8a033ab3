import java.util.ArrayDeque;
import java.util.ArrayList;
import java.util.Arrays;
import java.util.Deque;
import java.util.List;
import java.util.regex.Matcher;
import java.util.regex.Pattern;

/** A law's text for RiverModel: cut into tokens by a pattern, judged token by token by a machine of states. */
final class ModelText {
    private static final Pattern TOKEN = Pattern.compile("[a-z]+|[0-9]+|[();+*/<=-]|[^ \n]", Pattern.DOTALL);
    private static final List<String> NAMES = Arrays.asList("mark", "size", "stump", "hour", "day", "reach", "age");

    private enum State { RULE, EXPR, TEST, PART, BEHIND }

    final List<String> tokens = new ArrayList<>();
    int fault = 0;
    int place = -1;
    private State state = State.RULE;
    private int rules = 0;
    // Of each open EXPR, whether its latest TEST has its '<' or '=' already.
    private final Deque<Boolean> open = new ArrayDeque<>();

    ModelText(String text) {
        Matcher m = TOKEN.matcher(text);
        while (fault == 0 && m.find()) {
            tokens.add(m.group());
            fault = judge(m.group());
            place = fault == 0 ? -1 : m.start();
        }
        if (fault == 0 && state != State.RULE) {
            fault = 1;
            place = text.length();
        }
    }

    private int judge(String token) {
        switch (state) {
            case RULE:
                if (!token.equals("bar") && !token.equals("toll")) {
                    return 1;
                }
                rules++;
                open.push(false);
                state = State.EXPR;
                return rules == 13 ? 2 : 0;
            case BEHIND:
                return judgeBehind(token);
            default:
                return judgePart(token);
        }
    }

    private int judgePart(String token) {
        boolean tooDeep = state == State.EXPR && open.size() == 9;
        if (token.equals("not") && state != State.PART) {
            state = State.PART;
            return tooDeep ? 2 : 0;
        }
        if (token.equals("(")) {
            open.push(false);
            state = State.EXPR;
            return tooDeep ? 2 : 0;
        }
        if (token.matches("[0-9]+")) {
            state = State.BEHIND;
            return tooDeep || token.length() > 6 ? 2 : 0;
        }
        if (token.matches("[a-z]+")) {
            state = State.BEHIND;
            return !NAMES.contains(token) ? 3 : tooDeep ? 2 : 0;
        }
        return 1;
    }

    private int judgeBehind(String token) {
        switch (token) {
            case "+": case "-": case "*": case "/":
                state = State.PART;
                return 0;
            case "<": case "=":
                state = State.PART;
                boolean twice = open.pop();
                open.push(true);
                return twice ? 1 : 0;
            case "and": case "or":
                open.pop();
                open.push(false);
                state = State.TEST;
                return 0;
            case ")":
                open.pop();
                return open.isEmpty() ? 1 : 0;
            case ";":
                open.pop();
                state = State.RULE;
                return open.isEmpty() ? 0 : 1;
            default:
                return 1;
        }
    }

    /** The value of an EXPR that has no fault: split at its weakest sign, the last one outside of brackets. */
    static int value(List<String> t, int[] names) {
        int at = last(t, "and", "or");
        if (at >= 0) {
            boolean a = value(t.subList(0, at), names) != 0;
            boolean b = value(t.subList(at + 1, t.size()), names) != 0;
            return (t.get(at).equals("and") ? a && b : a || b) ? 1 : 0;
        }
        if (t.get(0).equals("not")) {
            return value(t.subList(1, t.size()), names) == 0 ? 1 : 0;
        }
        for (String[] pair : new String[][] {{"<", "="}, {"+", "-"}, {"*", "/"}}) {
            at = last(t, pair[0], pair[1]);
            if (at >= 0) {
                return join(t.get(at), value(t.subList(0, at), names), value(t.subList(at + 1, t.size()), names));
            }
        }
        if (t.get(0).equals("(")) {
            return value(t.subList(1, t.size() - 1), names);
        }
        int name = NAMES.indexOf(t.get(0));
        return name >= 0 ? names[name] : Integer.parseInt(t.get(0));
    }

    private static int join(String sign, int a, int b) {
        switch (sign) {
            case "<":
                return a < b ? 1 : 0;
            case "=":
                return a == b ? 1 : 0;
            case "+":
                return a + b;
            case "-":
                return a - b;
            case "*":
                return a * b;
            default:
                return b == 0 ? 0 : a / b;
        }
    }

    private static int last(List<String> t, String one, String other) {
        int depth = 0;
        for (int i = t.size() - 1; i >= 0; i--) {
            String token = t.get(i);
            depth += token.equals(")") ? 1 : token.equals("(") ? -1 : 0;
            if (depth == 0 && (token.equals(one) || token.equals(other))) {
                return i;
            }
        }
        return -1;
    }
}

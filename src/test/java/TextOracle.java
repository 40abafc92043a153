import java.math.BigInteger;
import java.util.ArrayList;
import java.util.List;
import java.util.regex.Matcher;
import java.util.regex.Pattern;

/**
 * Reads a text the other way than the class does: TOKENS by a pattern, the form by a row of open contexts
 * (no recursion), and numbers by working the TOKENS out as they stand.
 */
final class TextOracle {
    private static final Pattern TOKEN = Pattern.compile("[a-z]+[0-9]?|[0-9]+|[^a-z0-9 ]", Pattern.DOTALL);
    private static final BigInteger BOUND = BigInteger.valueOf(1000000000);

    private enum Context { BRACKET, PAIR_FIRST, PAIR_SECOND, TEST_LEFT, TEST_RIGHT, THEN, ELSE }

    final List<String> tokens = new ArrayList<>();
    private final List<Integer> places = new ArrayList<>();
    private final List<Context> open = new ArrayList<>();
    int fault = 0;
    int place = -1;
    int parts = 0;
    int asks = 0;
    private boolean wantsOne = true;
    private boolean tellCanBegin = true;
    private boolean wantsPair = false;
    private int at;

    TextOracle(String text) {
        Matcher matcher = TOKEN.matcher(text);
        while (matcher.find()) {
            tokens.add(matcher.group());
            places.add(matcher.start());
        }
        tokens.add("");
        places.add(text.length());
        for (int i = 0; i < tokens.size() && fault == 0; i++) {
            place = places.get(i);
            fault = step(tokens.get(i));
        }
    }

    private int step(String token) {
        if (token.matches("[a-z]{9,}[0-9]?|[0-9]{5,}") || !token.matches("[a-z]+[0-9]?|[0-9]+|[()<>=+*,-]|")) {
            return 1;
        }
        if (wantsPair) {
            wantsPair = false;
            return token.equals("(") ? openBracket(Context.PAIR_FIRST) : 1;
        }
        return wantsOne ? stepOne(token) : stepBehind(token);
    }

    private int stepOne(String token) {
        if (token.matches("x[0-5]|[0-9]+")) {
            wantsOne = false;
            if (token.charAt(0) == 'x') {
                asks |= 1 << token.charAt(1) - '0';
            }
            return part();
        }
        if (token.equals("-")) {
            tellCanBegin = false;
            return part();
        }
        if (token.equals("(")) {
            return openBracket(Context.BRACKET);
        }
        if (token.equals("least") || token.equals("most")) {
            wantsPair = true;
            return part();
        }
        if (token.equals("if") && tellCanBegin) {
            long ifs = open.stream().filter(c -> c.ordinal() >= Context.TEST_LEFT.ordinal()).count();
            open.add(Context.TEST_LEFT);
            tellCanBegin = false;
            return ifs >= 8 ? 3 : part();
        }
        return token.matches("[a-z]+[0-9]?") && !token.matches("if|then|else|least|most") ? 2 : 1;
    }

    private int stepBehind(String token) {
        if (token.matches("[+*-]")) {
            return wantOne(false) + part();
        }
        while (!open.isEmpty() && top() == Context.ELSE) {
            open.remove(open.size() - 1);
        }
        if (open.isEmpty()) {
            return token.isEmpty() ? 0 : 1;
        }
        switch (top()) {
            case BRACKET:
            case PAIR_SECOND:
                open.remove(open.size() - 1);
                return token.equals(")") ? 0 : 1;
            case PAIR_FIRST:
                return token.equals(",") ? change(Context.PAIR_SECOND) : 1;
            case TEST_LEFT:
                return token.matches("[<>=]") ? change(Context.TEST_RIGHT) + wantOne(false) + part() : 1;
            case TEST_RIGHT:
                return token.equals("then") ? change(Context.THEN) : 1;
            default:
                return token.equals("else") ? change(Context.ELSE) : 1;
        }
    }

    private Context top() {
        return open.get(open.size() - 1);
    }

    private int change(Context context) {
        open.set(open.size() - 1, context);
        return wantOne(true);
    }

    private int wantOne(boolean tell) {
        wantsOne = true;
        tellCanBegin = tell;
        return 0;
    }

    private int part() {
        parts++;
        return parts > 60 ? 3 : 0;
    }

    private int openBracket(Context context) {
        long brackets = open.stream().filter(c -> c.ordinal() < Context.TEST_LEFT.ordinal()).count();
        open.add(context);
        wantOne(true);
        return brackets >= 8 ? 3 : 0;
    }

    /** What a text without FAULT tells. */
    int tell(int[] inputs) {
        at = 0;
        return tellNext(inputs).intValue();
    }

    private String next() {
        return tokens.get(at++);
    }

    private BigInteger tellNext(int[] inputs) {
        if (!tokens.get(at).equals("if")) {
            return sum(inputs);
        }
        next();
        BigInteger left = sum(inputs);
        char sign = next().charAt(0);
        int order = left.compareTo(sum(inputs));
        next();
        BigInteger then = tellNext(inputs);
        next();
        BigInteger other = tellNext(inputs);
        return (sign == '<' ? order < 0 : sign == '>' ? order > 0 : order == 0) ? then : other;
    }

    private BigInteger sum(int[] inputs) {
        BigInteger all = term(inputs);
        while (tokens.get(at).matches("[+-]")) {
            boolean plus = next().equals("+");
            BigInteger more = term(inputs);
            all = bound(plus ? all.add(more) : all.subtract(more));
        }
        return all;
    }

    private BigInteger term(int[] inputs) {
        BigInteger all = one(inputs);
        while (tokens.get(at).equals("*")) {
            next();
            all = bound(all.multiply(one(inputs)));
        }
        return all;
    }

    private BigInteger one(int[] inputs) {
        String token = next();
        if (token.equals("-")) {
            return bound(one(inputs).negate());
        }
        if (token.equals("(")) {
            BigInteger inner = tellNext(inputs);
            next();
            return inner;
        }
        if (token.equals("least") || token.equals("most")) {
            next();
            BigInteger first = tellNext(inputs);
            next();
            BigInteger second = tellNext(inputs);
            next();
            return token.equals("least") ? first.min(second) : first.max(second);
        }
        return token.charAt(0) == 'x' ? BigInteger.valueOf(inputs[token.charAt(1) - '0']) : new BigInteger(token);
    }

    private static BigInteger bound(BigInteger number) {
        return number.min(BOUND).max(BOUND.negate());
    }
}

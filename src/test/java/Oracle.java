import java.math.BigDecimal;
import java.math.RoundingMode;
import java.util.ArrayList;
import java.util.HashMap;
import java.util.List;
import java.util.Map;
import java.util.regex.Matcher;
import java.util.regex.Pattern;

/**
 * The document's language once more, written another way: a tree of closures over BigDecimals. A
 * BigDecimal's unscaled value and scale are a number's m and decimals.
 */
final class Oracle {
    private static final Pattern TOKEN = Pattern.compile(
        " +|[0-9]+(?:\\.[0-9]{1,4})?|[a-z]+|[<>=!]=|[-+*/%^(){}=<>;\n]");
    private static final BigDecimal LARGEST = BigDecimal.valueOf(999_999_999);

    private interface Value {
        BigDecimal get();
    }

    private interface Test {
        boolean holds();
    }

    private interface Action {
        void act();
    }

    private record Function(char parameter, Action body) {
    }

    private static final class Stop extends RuntimeException {
        private static final long serialVersionUID = 1;
        private final int fault;

        Stop(int fault) {
            super(null, null, false, false);
            this.fault = fault;
        }
    }

    private static final class Returned extends RuntimeException {
        private static final long serialVersionUID = 1;
        private final transient BigDecimal value;

        Returned(BigDecimal value) {
            super(null, null, false, false);
            this.value = value;
        }
    }

    final Map<Character, BigDecimal> variables = new HashMap<>();
    int scale;
    int fault;
    int steps;
    final StringBuilder out = new StringBuilder();

    private final Map<Character, Function> functions = new HashMap<>();
    private final List<String> tokens = new ArrayList<>();
    private int at;
    private boolean defining;
    private int fuel;
    private int open;

    /** Runs the text; what is asked for afterwards stands in the fields. */
    void run(String text, int fuelGiven) {
        out.setLength(0);
        steps = 0;
        fault = 0;
        open = 0;
        fuel = Math.max(0, Math.min(2000, fuelGiven));
        try {
            split(text);
            program().act();
        } catch (Stop stop) {
            fault = stop.fault;
        }
    }

    void reset() {
        variables.clear();
        scale = 0;
    }

    BigDecimal variable(char name) {
        return variables.getOrDefault(name, BigDecimal.ZERO);
    }

    private void split(String text) {
        tokens.clear();
        at = 0;
        Matcher matcher = TOKEN.matcher(text);
        int end = 0;
        while (end < text.length()) {
            require(matcher.find(end) && matcher.start() == end);
            String token = matcher.group();
            end = matcher.end();
            if (token.charAt(0) >= 'a' && token.charAt(0) <= 'z') {
                require(token.length() == 1 || token.matches("if|while|define|return|scale"));
            }
            if (Character.isDigit(token.charAt(0))) {
                require(token.replace(".", "").length() <= 9);
            }
            if (!token.isBlank() || token.equals("\n")) {
                tokens.add(token.equals("\n") ? ";" : token);
            }
        }
        tokens.add("");
    }

    private static void require(boolean holds) {
        if (!holds) {
            throw new Stop(1);
        }
    }

    private boolean see(String token) {
        return tokens.get(at).equals(token);
    }

    private boolean take(String token) {
        if (see(token)) {
            at++;
            return true;
        }
        return false;
    }

    private String takeOneOf(String pattern) {
        return tokens.get(at).matches(pattern) ? tokens.get(at++) : null;
    }

    private char name() {
        String name = takeOneOf("[a-z]");
        require(name != null);
        return name.charAt(0);
    }

    private static int down(int depth) {
        require(depth < 6);
        return depth + 1;
    }

    private Action program() {
        functions.clear();
        defining = false;
        Action all = parts("", 0);
        require(see(""));
        return all;
    }

    private Action parts(String close, int depth) {
        List<Action> parts = new ArrayList<>();
        boolean mayBegin = true;
        while (!see(close)) {
            if (take(";")) {
                mayBegin = true;
            } else {
                require(mayBegin);
                mayBegin = false;
                if (close.isEmpty() && take("define")) {
                    definition();
                } else {
                    parts.add(statement(depth));
                }
            }
        }
        return () -> parts.forEach(Action::act);
    }

    private void definition() {
        char name = name();
        require(!functions.containsKey(name));
        require(take("("));
        char parameter = name();
        require(take(")"));
        functions.put(name, new Function(parameter, () -> { }));
        defining = true;
        Action body = block(0);
        defining = false;
        functions.put(name, new Function(parameter, body));
    }

    private Action block(int depth) {
        require(take("{"));
        Action list = parts("}", down(depth));
        require(take("}"));
        return list;
    }

    private Action statement(int depth) {
        if (see("{")) {
            return block(depth);
        }
        Action rest = stepping(depth);
        return () -> {
            step();
            rest.act();
        };
    }

    private Action stepping(int depth) {
        String next = at + 1 < tokens.size() ? tokens.get(at + 1) : "";
        if (next.equals("=") && tokens.get(at).matches("[a-z]|scale")) {
            String target = tokens.get(at);
            at += 2;
            Value value = sum(depth);
            return target.equals("scale")
                ? () -> scale = whole(value.get(), 0, 4)
                : () -> variables.put(target.charAt(0), value.get());
        }
        if (take("return")) {
            require(defining);
            Value value = sum(depth);
            return () -> {
                throw new Returned(value.get());
            };
        }
        if (take("if")) {
            Test test = test(depth);
            Action inner = statement(down(depth));
            return () -> {
                if (test.holds()) {
                    inner.act();
                }
            };
        }
        if (take("while")) {
            Test test = test(depth);
            Action inner = statement(down(depth));
            return () -> {
                for (; test.holds(); step()) {
                    inner.act();
                }
            };
        }
        Value value = sum(depth);
        return () -> write(value.get());
    }

    private Test test(int depth) {
        require(take("("));
        Value left = sum(down(depth));
        String relation = takeOneOf("[<>]=?|[=!]=");
        require(relation != null);
        Value right = sum(down(depth));
        require(take(")"));
        boolean ifLess = relation.matches("<=?|!=");
        boolean ifSame = relation.matches("[<>=]=");
        boolean ifMore = relation.matches(">=?|!=");
        return () -> {
            int order = left.get().compareTo(right.get());
            return order == 0 ? ifSame : order < 0 ? ifLess : ifMore;
        };
    }

    private Value sum(int depth) {
        Value value = product(depth);
        for (String sign = takeOneOf("[-+]"); sign != null; sign = takeOneOf("[-+]")) {
            value = joined(sign, value, product(depth));
        }
        return value;
    }

    private Value product(int depth) {
        Value value = signed(depth);
        for (String sign = takeOneOf("[*/%]"); sign != null; sign = takeOneOf("[*/%]")) {
            value = joined(sign, value, signed(depth));
        }
        return value;
    }

    private Value signed(int depth) {
        if (take("-")) {
            Value value = signed(down(depth));
            return () -> value.get().negate();
        }
        Value base = atom(depth);
        return take("^") ? joined("^", base, signed(down(depth))) : base;
    }

    private Value atom(int depth) {
        if (take("(")) {
            Value inner = sum(down(depth));
            require(take(")"));
            return inner;
        }
        if (take("scale")) {
            return () -> BigDecimal.valueOf(scale);
        }
        String numeral = takeOneOf("[0-9.]+");
        if (numeral != null) {
            BigDecimal number = new BigDecimal(numeral);
            return () -> number;
        }
        char name = name();
        if (!take("(")) {
            return () -> variable(name);
        }
        Value argument = sum(down(depth));
        require(take(")"));
        return () -> called(name, argument.get());
    }

    private Value joined(String sign, Value left, Value right) {
        return () -> {
            BigDecimal a = left.get();
            return operate(sign, a, right.get());
        };
    }

    private BigDecimal operate(String sign, BigDecimal a, BigDecimal b) {
        return switch (sign) {
            case "+" -> number(a.add(b));
            case "-" -> number(a.subtract(b));
            case "*" -> times(a, b);
            case "/" -> over(a, b);
            case "%" -> {
                refuse(b.signum() == 0, 2);
                BigDecimal whole = a.divideToIntegralValue(b).setScale(0);
                yield number(a.subtract(b.multiply(whole)).setScale(Math.max(a.scale(), b.scale())));
            }
            default -> power(a, whole(b, -99, 99));
        };
    }

    private BigDecimal times(BigDecimal a, BigDecimal b) {
        int kept = Math.min(a.scale() + b.scale(), Math.max(scale, Math.max(a.scale(), b.scale())));
        return number(a.multiply(b).setScale(kept, RoundingMode.DOWN));
    }

    private BigDecimal over(BigDecimal a, BigDecimal b) {
        refuse(b.signum() == 0, 2);
        return number(a.divide(b, scale, RoundingMode.DOWN));
    }

    private BigDecimal power(BigDecimal a, int n) {
        if (n < 0) {
            return over(BigDecimal.ONE, power(a, -n));
        }
        return n == 0 ? BigDecimal.ONE : times(power(a, n - 1), a);
    }

    private static BigDecimal number(BigDecimal value) {
        refuse(new BigDecimal(value.unscaledValue()).abs().compareTo(LARGEST) > 0, 3);
        return value;
    }

    private static int whole(BigDecimal value, int least, int most) {
        refuse(value.stripTrailingZeros().scale() > 0, 5);
        refuse(value.compareTo(BigDecimal.valueOf(least)) < 0, 5);
        refuse(value.compareTo(BigDecimal.valueOf(most)) > 0, 5);
        return value.intValue();
    }

    private BigDecimal called(char name, BigDecimal argument) {
        Function function = functions.get(name);
        refuse(function == null, 6);
        refuse(open == 4, 7);
        BigDecimal before = variable(function.parameter());
        variables.put(function.parameter(), argument);
        open++;
        BigDecimal value = BigDecimal.ZERO;
        try {
            function.body().act();
        } catch (Returned returned) {
            value = returned.value;
        }
        open--;
        variables.put(function.parameter(), before);
        return value;
    }

    private void step() {
        refuse(steps == fuel, 4);
        steps++;
    }

    private void write(BigDecimal value) {
        String line = value.toPlainString() + "\n";
        refuse(out.length() + line.length() > 300, 8);
        out.append(line);
    }

    private static void refuse(boolean broken, int fault) {
        if (broken) {
            throw new Stop(fault);
        }
    }
}

import java.util.Arrays;

/**
 * A calculator with exact decimals: a text of statements is read as a whole and then run.
 *
 * <p>A run goes through three stages: the scanner cuts the text into tokens, the parser turns these
 * into code, the machine performs the code. All rows are made once and used again by every run, and
 * the machine keeps its own stack, so that a run makes no objects and does not recurse.
 */
public final class DecimalRun {
    private static final int TEXT_LIMIT = 200;
    private static final int OUT_LIMIT = 300;
    private static final int FUEL_LIMIT = 2000;
    private static final int DEPTH_LIMIT = 6;
    private static final int CALL_LIMIT = 4;
    private static final int EXPONENT_LIMIT = 99;
    private static final int VARIABLES = 26;
    private static final int MOST_DIGITS = 9;
    private static final int MOST_DECIMALS = 4;
    private static final long LARGEST = 999_999_999L;

    // The faults, with the document's numbers.
    private static final int FAULTY_TEXT = 1;
    private static final int ZERO_DIVISOR = 2;
    private static final int NO_NUMBER = 3;
    private static final int OUT_OF_FUEL = 4;
    private static final int WRONG_WHOLE = 5;
    private static final int NO_FUNCTION = 6;
    private static final int TOO_MANY_CALLS = 7;
    private static final int OUTPUT_FULL = 8;

    // The tokens. A symbol of one character is its own code, so these stay above 255; END may be 0
    // because no text holds that code.
    private static final int END = 0;
    private static final int SEPARATOR = ';';
    private static final int NUMERAL = 256;
    private static final int NAME = 257;
    private static final int IF = 258;
    private static final int WHILE = 259;
    private static final int DEFINE = 260;
    private static final int RETURN = 261;
    private static final int SCALE = 262;
    private static final int AT_MOST = 263;
    private static final int AT_LEAST = 264;
    private static final int EQUAL = 265;
    private static final int UNEQUAL = 266;

    // The operations of the code. An operator between two values is its own token; the others stay
    // apart from the tokens.
    private static final int STEP = 300;
    private static final int PUSH = 301;
    private static final int LOAD = 302;
    private static final int STORE = 303;
    private static final int LOAD_SCALE = 304;
    private static final int STORE_SCALE = 305;
    private static final int NEGATE = 306;
    private static final int WRITE = 307;
    private static final int CALL = 308;
    private static final int GIVE_BACK = 309;
    private static final int JUMP = 310;
    private static final int JUMP_UNLESS = 311;

    // A token gives three operations at most: a name that is a statement steps, loads and writes.
    private static final int CODE_LIMIT = 3 * TEXT_LIMIT;

    // At each depth of each open call four left sides at most wait for their right ones: those of a
    // comparison, a sum, a product and a power.
    private static final int STACK_LIMIT = 4 * (DEPTH_LIMIT + 1) * (CALL_LIMIT + 1);

    // Between two steps no operation comes twice, but for the two at the end of an empty function,
    // which come once for each call.
    private static final int WORK_LIMIT = 3 * CODE_LIMIT * (FUEL_LIMIT + 2);

    private final Text text = new Text();
    private final Memory memory = new Memory();
    private final Outcome outcome = new Outcome();
    private final Code code = new Code();
    private final Scanner scanner = new Scanner(text, outcome);
    private final Parser parser = new Parser(scanner, code, outcome);
    private final Machine machine = new Machine(code, memory, outcome);

    public DecimalRun() {
    }

    public int feed(int w) {
        return text.append(w);
    }

    public int length() {
        return text.size;
    }

    public void clear() {
        text.size = 0;
    }

    public void reset() {
        memory.forget();
    }

    public int run(int fuel) throws IllegalArgumentException, ArithmeticException, IllegalStateException {
        outcome.begin(Math.max(0, Math.min(fuel, FUEL_LIMIT)));
        scanner.scan();
        parser.parse();
        machine.execute();
        return outcome.steps;
    }

    public int fault() {
        return outcome.fault;
    }

    public int steps() {
        return outcome.steps;
    }

    public int outLength() {
        return outcome.size;
    }

    public int out(int i) {
        return i >= 0 && i < outcome.size ? outcome.written[i] : -1;
    }

    public int variable(int c) {
        return isVariable(c) ? (int) Arithmetic.mantissa(memory.variables[c]) : 0;
    }

    public int decimals(int c) {
        return isVariable(c) ? Arithmetic.places(memory.variables[c]) : -1;
    }

    public int scale() {
        return memory.scale;
    }

    private static boolean isVariable(int c) {
        return c >= 0 && c < VARIABLES;
    }

    /** The characters that were fed. */
    private static final class Text {
        private final char[] characters = new char[TEXT_LIMIT];
        private int size;

        /** Appends the characters packed in w; answers how many, or -1 if they do not fit. */
        int append(int w) {
            int more = packed(w);
            if (size + more > TEXT_LIMIT) {
                return -1;
            }
            for (int i = 0; i < more; i++) {
                characters[size + i] = (char) (w >> 8 * i & 255);
            }
            size += more;
            return more;
        }

        private static int packed(int w) {
            int count = 0;
            while (count < 4 && (w >> 8 * count & 255) != 0) {
                count++;
            }
            return count;
        }

        /** The character at this place; END where there is none, so that one may look ahead. */
        char at(int place) {
            return place >= 0 && place < size ? characters[place] : END;
        }
    }

    /** What stays from run to run. */
    private static final class Memory {
        private final long[] variables = new long[VARIABLES];
        private int scale;

        void forget() {
            Arrays.fill(variables, 0);
            scale = 0;
        }
    }

    /** What the latest run leaves to be asked for: its fault, its steps and its output. */
    private static final class Outcome {
        private final char[] written = new char[OUT_LIMIT];
        private int size;
        private int fault;
        private int steps;
        private int fuel;

        void begin(int fuelOfRun) {
            size = 0;
            fault = 0;
            steps = 0;
            fuel = fuelOfRun;
        }

        /** Ends the run with this fault. It never comes back: what it throws goes on to run's caller. */
        void raise(int number) {
            fault = number;
            if (number == FAULTY_TEXT) {
                throw new IllegalArgumentException();
            }
            if (number == ZERO_DIVISOR || number == NO_NUMBER || number == WRONG_WHOLE) {
                throw new ArithmeticException();
            }
            throw new IllegalStateException();
        }

        void step() {
            if (steps >= fuel) {
                raise(OUT_OF_FUEL);
            }
            steps++;
        }

        /** Writes a number and a line's end, from the last character to the first. */
        void write(long number) {
            long mantissa = Arithmetic.mantissa(number);
            int places = Arithmetic.places(number);
            int digits = Math.max(places + 1, digitsOf(Math.abs(mantissa)));
            int end = size + digits + (mantissa < 0 ? 1 : 0) + (places > 0 ? 1 : 0) + 1;
            if (end > OUT_LIMIT) {
                raise(OUTPUT_FULL);
            }
            int place = end - 1;
            written[place--] = 10;
            long rest = Math.abs(mantissa);
            for (int i = 0; i < digits; i++) {
                if (i > 0 && i == places) {
                    written[place--] = '.';
                }
                written[place--] = (char) ('0' + rest % 10);
                rest /= 10;
            }
            if (mantissa < 0) {
                written[place] = '-';
            }
            size = end;
        }

        private static int digitsOf(long value) {
            int count = 1;
            while (count < MOST_DIGITS && value >= Arithmetic.TEN_TO[count]) {
                count++;
            }
            return count;
        }
    }

    /** The operations that a text was turned into, and where its functions begin. */
    private static final class Code {
        private static final int NOWHERE = -1;

        private final int[] operations = new int[CODE_LIMIT];
        private final long[] operands = new long[CODE_LIMIT];
        private final int[] entries = new int[VARIABLES];
        private final int[] parameters = new int[VARIABLES];
        private int size;

        void begin() {
            size = 0;
            Arrays.fill(entries, NOWHERE);
        }

        /** Appends an operation; answers its place. */
        int emit(int operation, long operand) {
            if (size < CODE_LIMIT) {
                operations[size] = operation;
                operands[size] = operand;
                size++;
            }
            return size - 1;
        }

        /** Makes the jump at this place go to what is appended next. */
        void land(int jump) {
            if (jump >= 0 && jump < size) {
                operands[jump] = size;
            }
        }

        boolean isFunction(int name) {
            return entries[name] != NOWHERE;
        }

        /** Makes the name a function whose list is what is appended next. */
        void define(int name, int parameter) {
            entries[name] = size;
            parameters[name] = parameter;
        }
    }

    /** Cuts the text into tokens; a numeral's value is its number, a name's is its variable. */
    private static final class Scanner {
        private final Text text;
        private final Outcome outcome;
        private final int[] kinds = new int[TEXT_LIMIT + 1];
        private final long[] values = new long[TEXT_LIMIT + 1];
        private int count;

        Scanner(Text text, Outcome outcome) {
            this.text = text;
            this.outcome = outcome;
        }

        void scan() {
            count = 0;
            int place = 0;
            while (place < text.size) {
                place += Math.max(1, take(place));
            }
            kinds[count] = END;
        }

        /** Takes the token or the blank at this place; answers how many characters it has. */
        private int take(int place) {
            char first = text.at(place);
            if (first == ' ') {
                return 1;
            }
            if (isDigit(first)) {
                return takeNumeral(place);
            }
            return isLetter(first) ? takeWord(place) : takeSymbol(place);
        }

        private int takeNumeral(int place) {
            int whole = digits(place, MOST_DIGITS);
            int places = 0;
            if (text.at(place + whole) == '.') {
                places = digits(place + whole + 1, Math.min(MOST_DECIMALS, MOST_DIGITS - whole));
            }
            int width = places == 0 ? whole : whole + 1 + places;
            long mantissa = 0;
            for (int i = place; i < place + width; i++) {
                if (isDigit(text.at(i))) {
                    mantissa = mantissa * 10 + (text.at(i) - '0');
                }
            }
            add(NUMERAL, Arithmetic.pack(mantissa, places));
            return width;
        }

        private int digits(int place, int most) {
            int width = 0;
            while (width < most && isDigit(text.at(place + width))) {
                width++;
            }
            return width;
        }

        private int takeWord(int place) {
            int width = 1;
            while (width < TEXT_LIMIT && isLetter(text.at(place + width))) {
                width++;
            }
            if (width == 1) {
                add(NAME, text.at(place) - 'a');
            } else {
                add(reserved(place, width), 0);
            }
            return width;
        }

        private int reserved(int place, int width) {
            if (spells("if", place, width)) {
                return IF;
            }
            if (spells("while", place, width)) {
                return WHILE;
            }
            if (spells("define", place, width)) {
                return DEFINE;
            }
            if (spells("return", place, width)) {
                return RETURN;
            }
            if (!spells("scale", place, width)) {
                outcome.raise(FAULTY_TEXT);
            }
            return SCALE;
        }

        private boolean spells(String word, int place, int width) {
            if (word.length() != width) {
                return false;
            }
            for (int i = 0; i < width; i++) {
                if (word.charAt(i) != text.at(place + i)) {
                    return false;
                }
            }
            return true;
        }

        private int takeSymbol(int place) {
            char first = text.at(place);
            int pair = text.at(place + 1) == '=' ? withEqualSign(first) : END;
            if (pair != END) {
                add(pair, 0);
                return 2;
            }
            if (first != 10 && "+-*/%^(){}=<>;".indexOf(first) < 0) {
                outcome.raise(FAULTY_TEXT);
            }
            add(first == 10 ? SEPARATOR : first, 0);
            return 1;
        }

        private static int withEqualSign(char first) {
            return switch (first) {
                case '<' -> AT_MOST;
                case '>' -> AT_LEAST;
                case '=' -> EQUAL;
                case '!' -> UNEQUAL;
                default -> END;
            };
        }

        private void add(int kind, long value) {
            if (count < TEXT_LIMIT) {
                kinds[count] = kind;
                values[count] = value;
                count++;
            }
        }

        private static boolean isDigit(char c) {
            return c >= '0' && c <= '9';
        }

        private static boolean isLetter(char c) {
            return c >= 'a' && c <= 'z';
        }
    }

    /**
     * Turns the tokens into code, a method for each rule of the grammar. The depth that the document
     * limits is carried as an argument, and every way back into a rule goes one deeper.
     */
    private static final class Parser {
        private final Scanner tokens;
        private final Code code;
        private final Outcome outcome;
        private int place;
        private boolean inDefinition;

        Parser(Scanner tokens, Code code, Outcome outcome) {
            this.tokens = tokens;
            this.code = code;
            this.outcome = outcome;
        }

        void parse() {
            place = 0;
            inDefinition = false;
            code.begin();
            list(END, 0);
        }

        /** The parts up to the closing token: END for the program, which alone may define. */
        private void list(int close, int depth) {
            skipSeparators();
            for (int parts = 0; parts < TEXT_LIMIT && kind() != close; parts++) {
                if (close == END && kind() == DEFINE) {
                    definition(depth);
                } else {
                    statement(depth);
                }
                if (kind() != close) {
                    expect(SEPARATOR);
                }
                skipSeparators();
            }
        }

        private void definition(int depth) {
            expect(DEFINE);
            int name = expectName();
            if (code.isFunction(name)) {
                outcome.raise(FAULTY_TEXT);
            }
            expect('(');
            int parameter = expectName();
            expect(')');
            int past = code.emit(JUMP, 0);
            code.define(name, parameter);
            inDefinition = true;
            braces(depth);
            inDefinition = false;
            code.emit(PUSH, 0);
            code.emit(GIVE_BACK, 0);
            code.land(past);
        }

        private void braces(int depth) {
            expect('{');
            list('}', deeper(depth));
            expect('}');
        }

        private void statement(int depth) {
            int kind = kind();
            if (kind == '{') {
                braces(depth);
                return;
            }
            code.emit(STEP, 0);
            if (kind == IF || kind == WHILE) {
                conditional(depth);
            } else if (kind == RETURN) {
                giveBack(depth);
            } else if ((kind == NAME || kind == SCALE) && following() == '=') {
                assignment(depth);
            } else {
                expression(depth);
                code.emit(WRITE, 0);
            }
        }

        private void conditional(int depth) {
            boolean again = kind() == WHILE;
            advance();
            int look = code.size;
            expect('(');
            condition(deeper(depth));
            expect(')');
            int leave = code.emit(JUMP_UNLESS, 0);
            statement(deeper(depth));
            if (again) {
                code.emit(STEP, 0);
                code.emit(JUMP, look);
            }
            code.land(leave);
        }

        private void condition(int depth) {
            expression(depth);
            int relation = kind();
            if (!isRelation(relation)) {
                outcome.raise(FAULTY_TEXT);
            }
            advance();
            expression(depth);
            code.emit(relation, 0);
        }

        private void giveBack(int depth) {
            if (!inDefinition) {
                outcome.raise(FAULTY_TEXT);
            }
            advance();
            expression(depth);
            code.emit(GIVE_BACK, 0);
        }

        private void assignment(int depth) {
            int operation = kind() == NAME ? STORE : STORE_SCALE;
            long target = tokens.values[place];
            advance();
            expect('=');
            expression(depth);
            code.emit(operation, target);
        }

        private void expression(int depth) {
            term(depth);
            for (int more = 0; more < TEXT_LIMIT && isSign(kind()); more++) {
                int operator = kind();
                advance();
                term(depth);
                code.emit(operator, 0);
            }
        }

        private void term(int depth) {
            unary(depth);
            for (int more = 0; more < TEXT_LIMIT && isFactorSign(kind()); more++) {
                int operator = kind();
                advance();
                unary(depth);
                code.emit(operator, 0);
            }
        }

        private void unary(int depth) {
            if (kind() == '-') {
                advance();
                unary(deeper(depth));
                code.emit(NEGATE, 0);
            } else {
                power(depth);
            }
        }

        private void power(int depth) {
            atom(depth);
            if (kind() == '^') {
                advance();
                unary(deeper(depth));
                code.emit('^', 0);
            }
        }

        private void atom(int depth) {
            int kind = kind();
            long value = tokens.values[place];
            if (kind == '(') {
                parentheses(depth);
                return;
            }
            advance();
            if (kind == NUMERAL) {
                code.emit(PUSH, value);
            } else if (kind == SCALE) {
                code.emit(LOAD_SCALE, 0);
            } else if (kind != NAME) {
                outcome.raise(FAULTY_TEXT);
            } else if (kind() == '(') {
                parentheses(depth);
                code.emit(CALL, value);
            } else {
                code.emit(LOAD, value);
            }
        }

        private void parentheses(int depth) {
            expect('(');
            expression(deeper(depth));
            expect(')');
        }

        private int deeper(int depth) {
            if (depth >= DEPTH_LIMIT) {
                outcome.raise(FAULTY_TEXT);
            }
            return depth + 1;
        }

        private int kind() {
            return tokens.kinds[place];
        }

        private int following() {
            return place < tokens.count ? tokens.kinds[place + 1] : END;
        }

        private void advance() {
            if (place < tokens.count) {
                place++;
            }
        }

        private void expect(int kind) {
            if (kind() != kind) {
                outcome.raise(FAULTY_TEXT);
            }
            advance();
        }

        private int expectName() {
            int name = (int) tokens.values[place];
            expect(NAME);
            return name;
        }

        private void skipSeparators() {
            for (int skipped = 0; skipped < TEXT_LIMIT && kind() == SEPARATOR; skipped++) {
                advance();
            }
        }

        private static boolean isSign(int kind) {
            return kind == '+' || kind == '-';
        }

        private static boolean isFactorSign(int kind) {
            return kind == '*' || kind == '/' || kind == '%';
        }

        private static boolean isRelation(int kind) {
            return kind == '<' || kind == '>' || kind >= AT_MOST && kind <= UNEQUAL;
        }
    }

    /**
     * The operations on numbers. A number is packed into one long, its m above its decimals, so that
     * working on it makes no objects; 0 without decimals is the long 0.
     */
    private static final class Arithmetic {
        private static final long[] TEN_TO = {
            1L, 10L, 100L, 1_000L, 10_000L, 100_000L, 1_000_000L, 10_000_000L, 100_000_000L
        };
        private static final int PLACES_BITS = 3;
        private static final int PLACES_MASK = 7;

        private final Memory memory;
        private final Outcome outcome;

        Arithmetic(Memory memory, Outcome outcome) {
            this.memory = memory;
            this.outcome = outcome;
        }

        static long pack(long mantissa, int places) {
            return mantissa << PLACES_BITS | places;
        }

        static long mantissa(long number) {
            return number >> PLACES_BITS;
        }

        static int places(long number) {
            return (int) (number & PLACES_MASK);
        }

        static long negated(long number) {
            return pack(-mantissa(number), places(number));
        }

        /** What the operator makes of the two; a comparison makes 1 if it holds, else 0. */
        long operate(int operator, long a, long b) {
            return switch (operator) {
                case '+' -> sum(a, b);
                case '-' -> sum(a, negated(b));
                case '*' -> product(a, b);
                case '/' -> quotient(a, b);
                case '%' -> remainder(a, b);
                case '^' -> power(a, b);
                default -> holds(operator, a, b) ? pack(1, 0) : 0;
            };
        }

        /** The whole number that this one is, which must be there and lie between the two. */
        int whole(long number, int least, int most) {
            long unit = TEN_TO[places(number)];
            long value = mantissa(number) / unit;
            if (mantissa(number) % unit != 0 || value < least || value > most) {
                outcome.raise(WRONG_WHOLE);
            }
            return (int) value;
        }

        private long sum(long a, long b) {
            int places = Math.max(places(a), places(b));
            return checked(aligned(a, places) + aligned(b, places), places);
        }

        private long product(long a, long b) {
            int exact = places(a) + places(b);
            int kept = Math.min(exact, Math.max(memory.scale, Math.max(places(a), places(b))));
            return checked(mantissa(a) * mantissa(b) / TEN_TO[exact - kept], kept);
        }

        private long quotient(long a, long b) {
            refuseZero(b);
            long dividend = mantissa(a) * TEN_TO[places(b) + memory.scale];
            return checked(dividend / (mantissa(b) * TEN_TO[places(a)]), memory.scale);
        }

        private long remainder(long a, long b) {
            refuseZero(b);
            int places = Math.max(places(a), places(b));
            return checked(aligned(a, places) % aligned(b, places), places);
        }

        private long power(long a, long b) {
            int exponent = whole(b, -EXPONENT_LIMIT, EXPONENT_LIMIT);
            long result = pack(1, 0);
            for (int i = 0; i < Math.abs(exponent); i++) {
                result = product(result, a);
            }
            return exponent < 0 ? quotient(pack(1, 0), result) : result;
        }

        private static boolean holds(int relation, long a, long b) {
            int order = Long.compare(aligned(a, MOST_DECIMALS), aligned(b, MOST_DECIMALS));
            return switch (relation) {
                case '<' -> order < 0;
                case '>' -> order > 0;
                case AT_MOST -> order <= 0;
                case AT_LEAST -> order >= 0;
                case EQUAL -> order == 0;
                default -> order != 0;
            };
        }

        /** The m that the number has with so many decimals, which are no fewer than its own. */
        private static long aligned(long number, int places) {
            return mantissa(number) * TEN_TO[places - places(number)];
        }

        private long checked(long mantissa, int places) {
            if (mantissa > LARGEST || mantissa < -LARGEST) {
                outcome.raise(NO_NUMBER);
            }
            return pack(mantissa, places);
        }

        private void refuseZero(long divisor) {
            if (mantissa(divisor) == 0) {
                outcome.raise(ZERO_DIVISOR);
            }
        }
    }

    /** Performs the code. */
    private static final class Machine {
        private final Code code;
        private final Memory memory;
        private final Outcome outcome;
        private final Arithmetic arithmetic;
        private final long[] stack = new long[STACK_LIMIT];
        private int top;
        private int place;
        // Of each open call: where it goes on behind it, and its parameter with the value before it.
        private final int[] returns = new int[CALL_LIMIT];
        private final int[] parameters = new int[CALL_LIMIT];
        private final long[] before = new long[CALL_LIMIT];
        private int calls;

        Machine(Code code, Memory memory, Outcome outcome) {
            this.code = code;
            this.memory = memory;
            this.outcome = outcome;
            this.arithmetic = new Arithmetic(memory, outcome);
        }

        void execute() {
            top = 0;
            place = 0;
            calls = 0;
            for (int done = 0; done < WORK_LIMIT && place < code.size; done++) {
                int here = place;
                place++;
                perform(code.operations[here], code.operands[here]);
            }
        }

        private void perform(int operation, long operand) {
            switch (operation) {
                case STEP -> outcome.step();
                case PUSH -> push(operand);
                case LOAD -> push(memory.variables[(int) operand]);
                case STORE -> memory.variables[(int) operand] = pop();
                case LOAD_SCALE -> push(Arithmetic.pack(memory.scale, 0));
                case STORE_SCALE -> memory.scale = arithmetic.whole(pop(), 0, MOST_DECIMALS);
                case NEGATE -> push(Arithmetic.negated(pop()));
                case WRITE -> outcome.write(pop());
                case CALL -> call((int) operand);
                case GIVE_BACK -> giveBack();
                case JUMP -> place = (int) operand;
                case JUMP_UNLESS -> place = pop() == 0 ? (int) operand : place;
                default -> {
                    long right = pop();
                    long left = pop();
                    push(arithmetic.operate(operation, left, right));
                }
            }
        }

        private void call(int name) {
            long argument = pop();
            if (!code.isFunction(name)) {
                outcome.raise(NO_FUNCTION);
            }
            if (calls >= CALL_LIMIT) {
                outcome.raise(TOO_MANY_CALLS);
            }
            int parameter = code.parameters[name];
            returns[calls] = place;
            parameters[calls] = parameter;
            before[calls] = memory.variables[parameter];
            calls++;
            memory.variables[parameter] = argument;
            place = code.entries[name];
        }

        /** Ends the innermost call; its value stays on the stack. */
        private void giveBack() {
            if (calls > 0) {
                calls--;
                memory.variables[parameters[calls]] = before[calls];
                place = returns[calls];
            }
        }

        private void push(long value) {
            if (top < STACK_LIMIT) {
                stack[top] = value;
                top++;
            }
        }

        private long pop() {
            if (top == 0) {
                return 0;
            }
            top--;
            return stack[top];
        }
    }
}

/**
 * A desk that reads forms of lists, makes code of them, carries them out and prints what comes of them.
 *
 * A datum is one int: a number is itself, a symbol or a pair is its index behind the mark of its kind.
 * Where a method answers a datum, an answer below 0 is an error's number, negated.
 */
public final class ListSpeaker {
    public static final int NONE = -1;

    private static final int FINE = 0;
    private static final int SYNTAX = 1;
    private static final int UNKNOWN = 2;
    private static final int UNDEFINED = 3;
    private static final int ARGUMENTS = 4;
    private static final int FUEL = 5;
    private static final int ROOM = 6;
    private static final int OVERFLOW = 7;
    private static final int ERROR = 8;
    private static final int DEEP = 9;
    private static final int REDEFINED = 10;
    private static final int FULL = 11;

    private static final int SMALLEST_SIZE = 4;
    private static final int LARGEST_SIZE = 200;
    private static final int MOST_FUEL = 20000;
    private static final int MOST_TEXT = 300;
    private static final int MOST_OUTPUT = 400;
    private static final int MOST_SYMBOLS = 60;
    private static final int MOST_LETTERS = 8;
    private static final int MOST_STORE = 400;
    private static final int MOST_PLACES = 100;
    private static final int MOST_FUNCTIONS = 16;
    private static final int MOST_PARAMETERS = 5;
    private static final int DEEPEST_LEVEL = 12;
    private static final int LARGEST_NUMBER = 268435455;
    private static final int LARGEST_POWER = 100000000;

    /** A path through pairs meets each of them once at most, and leaves one datum more behind it. */
    private static final int MOST_WAITING = MOST_STORE + LARGEST_SIZE + 2;

    /** The store's pairs hold some 400 forms, each of which makes 5 instructions at most, and 17 ends. */
    private static final int MOST_CODE = 2400;

    /** Far above the turns that 20000 steps can need. */
    private static final int MOST_TURNS = 1000000;

    private static final int SYMBOL_KIND = 1 << 28;
    private static final int PAIR_KIND = 2 << 28;

    private static final String FIRST_NAMES =
        "nil t quote if let cond and or list defun cons car cdr consp natp symbolp equal + - < error";
    private static final int NIL = SYMBOL_KIND;
    private static final int T = SYMBOL_KIND + 1;
    private static final int QUOTE = SYMBOL_KIND + 2;
    private static final int IF = SYMBOL_KIND + 3;
    private static final int LET = SYMBOL_KIND + 4;
    private static final int COND = SYMBOL_KIND + 5;
    private static final int AND = SYMBOL_KIND + 6;
    private static final int OR = SYMBOL_KIND + 7;
    private static final int LIST = SYMBOL_KIND + 8;
    private static final int DEFUN = SYMBOL_KIND + 9;
    private static final int CONS = SYMBOL_KIND + 10;
    private static final int CAR = SYMBOL_KIND + 11;
    private static final int CDR = SYMBOL_KIND + 12;
    private static final int CONSP = SYMBOL_KIND + 13;
    private static final int NATP = SYMBOL_KIND + 14;
    private static final int SYMBOLP = SYMBOL_KIND + 15;
    private static final int EQUAL = SYMBOL_KIND + 16;
    private static final int PLUS = SYMBOL_KIND + 17;
    private static final int MINUS = SYMBOL_KIND + 18;
    private static final int LESS = SYMBOL_KIND + 19;
    private static final int ERROR_NAME = SYMBOL_KIND + 20;

    private static final int SAME = 0;
    private static final int DIFFERENT = 1;
    private static final int OUT_OF_STEPS = 2;

    /** Instructions; beside them each symbol from cons to error is one, which does what it is the name of. */
    private static final int DO_END = 0;
    private static final int DO_STEP = 1;
    private static final int DO_PUSH = 2;
    private static final int DO_LOAD = 3;
    private static final int DO_JUMP = 4;
    private static final int DO_JUMP_IF_NIL = 5;
    private static final int DO_KEEP_NIL = 6;
    private static final int DO_KEEP_OTHERS = 7;
    private static final int DO_SLIDE = 8;
    private static final int DO_CALL = 9;
    private static final int DO_TAIL_CALL = 10;
    private static final int DO_RETURN = 11;

    private final Symbols symbols;
    private final Pairs pairs;
    private final Reader reader;
    private final Code code;
    private final Maker maker;
    private final Functions functions;
    private final Machine machine;
    private final Paper paper;
    private int formsDone;

    public ListSpeaker(int size) {
        symbols = new Symbols();
        pairs = new Pairs(Math.max(SMALLEST_SIZE, Math.min(LARGEST_SIZE, size)));
        reader = new Reader(symbols, pairs);
        code = new Code();
        maker = new Maker(pairs, code);
        functions = new Functions(pairs);
        machine = new Machine(pairs, code, functions);
        paper = new Paper(symbols, pairs);
    }

    public boolean type(char c) {
        return reader.append(c);
    }

    public int clear() {
        return reader.forget();
    }

    public int run(int fuel) throws IllegalArgumentException {
        if (fuel < 0 || fuel > MOST_FUEL) {
            throw new IllegalArgumentException("fuel is not 0 .. 20000");
        }
        paper.begin();
        machine.begin(fuel);
        reader.begin();
        formsDone = 0;
        int error = carryOutForms();
        reader.forget();
        if (error != FINE) {
            paper.printError(error);
        }
        return error;
    }

    public char output(int k) throws IndexOutOfBoundsException {
        if (k < 0 || k >= paper.length()) {
            throw new IndexOutOfBoundsException("no such character of output");
        }
        return paper.letter(k);
    }

    public int count(int what) {
        switch (what) {
            case 0: return paper.length();
            case 1: return functions.known();
            case 2: return symbols.known();
            case 3: return pairs.stored();
            case 4: return pairs.made();
            case 5: return pairs.collections();
            case 6: return machine.steps();
            case 7: return formsDone;
            case 8: return machine.mostTaken();
            default: return NONE;
        }
    }

    private int carryOutForms() {
        for (int n = 0; n < MOST_TEXT && reader.hasMore(); n++) {
            int storeBefore = pairs.stored();
            int codeBefore = code.length();
            int functionsBefore = functions.known();
            int datum = reader.next();
            int error = datum < 0 ? -datum : carryOut(datum);
            if (functions.known() == functionsBefore) {
                pairs.release(storeBefore);
                code.release(codeBefore);
            }
            if (error != FINE) {
                return error;
            }
            formsDone++;
        }
        return FINE;
    }

    private int carryOut(int datum) {
        boolean defines = pairs.car(datum) == DEFUN;
        int start = code.length();
        int error = defines ? maker.makeDefinition(datum) : maker.makeForm(datum);
        if (error == FINE) {
            error = defines ? functions.add(datum, start) : machine.execute(start);
        }
        if (error == FINE) {
            paper.printLine(defines ? pairs.item(datum, 1) : machine.value());
        }
        return error;
    }

    private static boolean isNumber(int datum) {
        return datum >= 0 && datum <= LARGEST_NUMBER;
    }

    private static boolean isSymbol(int datum) {
        return datum >= SYMBOL_KIND && datum < PAIR_KIND;
    }

    private static boolean isPair(int datum) {
        return datum >= PAIR_KIND;
    }

    /** The names of all symbols that were read. */
    private static final class Symbols {
        private final char[] letters = new char[MOST_SYMBOLS * MOST_LETTERS];
        private final int[] lengths = new int[MOST_SYMBOLS];
        private int known;

        Symbols() {
            char[] names = FIRST_NAMES.toCharArray();
            int from = 0;
            for (int at = 0; at <= names.length; at++) {
                if (at == names.length || names[at] == ' ') {
                    find(names, from, at - from);
                    from = at + 1;
                }
            }
        }

        int known() {
            return known;
        }

        int length(int symbol) {
            int index = symbol - SYMBOL_KIND;
            return index >= 0 && index < known ? lengths[index] : 0;
        }

        char letter(int symbol, int k) {
            int index = symbol - SYMBOL_KIND;
            boolean there = index >= 0 && index < known && k >= 0 && k < MOST_LETTERS;
            return there ? letters[index * MOST_LETTERS + k] : ' ';
        }

        int find(char[] text, int from, int length) {
            for (int i = 0; i < known; i++) {
                if (isNamed(i, text, from, length)) {
                    return SYMBOL_KIND + i;
                }
            }
            return add(text, from, length);
        }

        private boolean isNamed(int index, char[] text, int from, int length) {
            if (lengths[index] != length || from < 0 || from + length > text.length) {
                return false;
            }
            for (int k = 0; k < length; k++) {
                if (letters[index * MOST_LETTERS + k] != text[from + k]) {
                    return false;
                }
            }
            return true;
        }

        private int add(char[] text, int from, int length) {
            if (length < 1 || length > MOST_LETTERS || from < 0 || from + length > text.length) {
                return -SYNTAX;
            }
            if (known >= MOST_SYMBOLS) {
                return -FULL;
            }
            System.arraycopy(text, from, letters, known * MOST_LETTERS, length);
            lengths[known] = length;
            known++;
            return SYMBOL_KIND + known - 1;
        }
    }

    /** All pairs: those of the store first, which only grows and is cut back, then the room of those that are made. */
    private static final class Pairs {
        private final int size;
        private final int[] cars = new int[MOST_STORE + LARGEST_SIZE];
        private final int[] cdrs = new int[MOST_STORE + LARGEST_SIZE];
        private final int[] free = new int[LARGEST_SIZE];
        private final boolean[] reached = new boolean[LARGEST_SIZE];
        private final int[] waiting = new int[LARGEST_SIZE];
        private final int[] left = new int[MOST_WAITING];
        private final int[] right = new int[MOST_WAITING];
        private int stored;
        private int freeOnes;
        private int collections;
        private int compared;

        Pairs(int size) {
            this.size = size;
            for (int i = 0; i < size && i < LARGEST_SIZE; i++) {
                free[i] = i;
                freeOnes++;
            }
        }

        int stored() {
            return stored;
        }

        int made() {
            return size - freeOnes;
        }

        int collections() {
            return collections;
        }

        int compared() {
            return compared;
        }

        int car(int datum) {
            int index = datum - PAIR_KIND;
            return index >= 0 && index < cars.length ? cars[index] : NIL;
        }

        int cdr(int datum) {
            int index = datum - PAIR_KIND;
            return index >= 0 && index < cdrs.length ? cdrs[index] : NIL;
        }

        int item(int list, int k) {
            int rest = list;
            for (int i = 0; i < k; i++) {
                rest = cdr(rest);
            }
            return car(rest);
        }

        /** NONE for what is no list. */
        int lengthOf(int datum) {
            int rest = datum;
            for (int n = 0; n <= MOST_STORE; n++) {
                if (!isPair(rest)) {
                    return rest == NIL ? n : NONE;
                }
                rest = cdr(rest);
            }
            return NONE;
        }

        int store(int car, int cdr) {
            if (stored >= MOST_STORE) {
                return -FULL;
            }
            cars[stored] = car;
            cdrs[stored] = cdr;
            stored++;
            return PAIR_KIND + stored - 1;
        }

        void endWith(int pair, int cdr) {
            int index = pair - PAIR_KIND;
            if (index >= 0 && index < stored) {
                cdrs[index] = cdr;
            }
        }

        void release(int before) {
            if (before >= 0 && before < stored) {
                stored = before;
            }
        }

        boolean hasRoom() {
            return freeOnes > 0;
        }

        int make(int car, int cdr) {
            if (freeOnes <= 0) {
                return -ROOM;
            }
            freeOnes--;
            int index = MOST_STORE + free[freeOnes];
            cars[index] = car;
            cdrs[index] = cdr;
            return PAIR_KIND + index;
        }

        void collect(int[] stack, int height) {
            collections++;
            for (int i = 0; i < LARGEST_SIZE; i++) {
                reached[i] = false;
            }
            int count = 0;
            for (int i = 0; i < height && i < stack.length; i++) {
                count = reach(stack[i], count);
            }
            for (int n = 0; n < LARGEST_SIZE && count > 0; n++) {
                count--;
                int index = MOST_STORE + waiting[count];
                count = reach(cars[index], count);
                count = reach(cdrs[index], count);
            }
            gatherFree();
        }

        /** Pairs of the store lead to none that were made, so that the search may stop at them. */
        private int reach(int datum, int count) {
            int index = datum - PAIR_KIND - MOST_STORE;
            if (index < 0 || index >= LARGEST_SIZE || reached[index] || count >= LARGEST_SIZE) {
                return count;
            }
            reached[index] = true;
            waiting[count] = index;
            return count + 1;
        }

        private void gatherFree() {
            freeOnes = 0;
            for (int i = 0; i < size && i < LARGEST_SIZE; i++) {
                if (!reached[i]) {
                    free[freeOnes] = i;
                    freeOnes++;
                }
            }
        }

        /** Compares as far as so many comparisons of two pairs go; compared() tells how many there were. */
        int compare(int one, int other, int most) {
            compared = 0;
            left[0] = one;
            right[0] = other;
            int count = 1;
            for (int n = 0; n < MOST_TURNS && count > 0; n++) {
                count--;
                int a = left[count];
                int b = right[count];
                if (isPair(a) && isPair(b)) {
                    if (compared >= most || count + 2 > MOST_WAITING) {
                        return OUT_OF_STEPS;
                    }
                    compared++;
                    await(count, cdr(a), cdr(b));
                    await(count + 1, car(a), car(b));
                    count += 2;
                } else if (a != b) {
                    return DIFFERENT;
                }
            }
            return SAME;
        }

        private void await(int at, int a, int b) {
            if (at >= 0 && at < MOST_WAITING) {
                left[at] = a;
                right[at] = b;
            }
        }
    }

    /** The text and the way from it to data in the store. */
    private static final class Reader {
        private final Symbols symbols;
        private final Pairs pairs;
        private final char[] text = new char[MOST_TEXT];
        private int length;
        private int at;

        Reader(Symbols symbols, Pairs pairs) {
            this.symbols = symbols;
            this.pairs = pairs;
        }

        boolean append(char c) {
            if (length >= MOST_TEXT) {
                return false;
            }
            text[length] = c;
            length++;
            return true;
        }

        int forget() {
            int had = length;
            length = 0;
            return had;
        }

        void begin() {
            at = 0;
        }

        boolean hasMore() {
            skipBlanks();
            return at < length;
        }

        int next() {
            return datum(0);
        }

        /** level tells how many other data this one lies in. */
        private int datum(int level) {
            if (level > DEEPEST_LEVEL) {
                return -SYNTAX;
            }
            skipBlanks();
            if (isAt('(')) {
                at++;
                return list(level + 1);
            }
            if (isAt('\'')) {
                at++;
                return quoted(level + 1);
            }
            return row();
        }

        private int list(int level) {
            int first = NIL;
            int last = NONE;
            for (int n = 0; n <= MOST_TEXT; n++) {
                skipBlanks();
                if (isAt(')')) {
                    at++;
                    return first;
                }
                if (isAtDot()) {
                    return last == NONE ? -SYNTAX : dotted(first, last, level);
                }
                int pair = member(level);
                if (pair < 0) {
                    return pair;
                }
                if (last == NONE) {
                    first = pair;
                }
                pairs.endWith(last, pair);
                last = pair;
            }
            return -SYNTAX;
        }

        private int member(int level) {
            int datum = datum(level);
            return datum < 0 ? datum : pairs.store(datum, NIL);
        }

        private int dotted(int first, int last, int level) {
            at++;
            int datum = datum(level);
            if (datum < 0) {
                return datum;
            }
            skipBlanks();
            if (!isAt(')')) {
                return -SYNTAX;
            }
            at++;
            pairs.endWith(last, datum);
            return first;
        }

        private int quoted(int level) {
            int pair = member(level);
            return pair < 0 ? pair : pairs.store(QUOTE, pair);
        }

        private int row() {
            int from = at;
            int end = rowEnd();
            if (end == from) {
                return -SYNTAX;
            }
            at = end;
            return isDigit(text[from]) ? number(from, end) : symbol(from, end);
        }

        private int number(int from, int end) {
            long value = 0;
            for (int i = from; i < end; i++) {
                if (!isDigit(text[i])) {
                    return -SYNTAX;
                }
                value = value * 10 + text[i] - '0';
                if (value > LARGEST_NUMBER) {
                    return -SYNTAX;
                }
            }
            return (int) value;
        }

        private int symbol(int from, int end) {
            if (end - from > MOST_LETTERS) {
                return -SYNTAX;
            }
            for (int i = from; i < end; i++) {
                if (!isLetter(text[i]) && !isDigit(text[i])) {
                    return -SYNTAX;
                }
            }
            return symbols.find(text, from, end - from);
        }

        private int rowEnd() {
            int end = at;
            while (end < length && !endsRow(text[end])) {
                end++;
            }
            return end;
        }

        private void skipBlanks() {
            boolean inRemark = false;
            while (at < length) {
                char c = text[at];
                if (inRemark) {
                    inRemark = c != '\n';
                } else if (c == ';') {
                    inRemark = true;
                } else if (c != ' ' && c != '\n') {
                    return;
                }
                at++;
            }
        }

        private boolean isAt(char c) {
            return at < length && text[at] == c;
        }

        private boolean isAtDot() {
            return isAt('.') && rowEnd() == at + 1;
        }

        private static boolean endsRow(char c) {
            return c == ' ' || c == '\n' || c == ';' || c == '(' || c == ')' || c == '\'';
        }

        private static boolean isDigit(char c) {
            return c >= '0' && c <= '9';
        }

        private static boolean isLetter(char c) {
            return c >= 'a' && c <= 'z' || c == '+' || c == '-' || c == '*' || c == '<' || c == '=' || c == '?';
        }
    }

    /** The instructions of all functions and, behind them, of the form at hand. */
    private static final class Code {
        private final int[] operations = new int[MOST_CODE];
        private final int[] operands = new int[MOST_CODE];
        private final int[] numbers = new int[MOST_CODE];
        private int length;

        int length() {
            return length;
        }

        void release(int before) {
            if (before >= 0 && before < length) {
                length = before;
            }
        }

        int operation(int at) {
            return at >= 0 && at < length ? operations[at] : DO_END;
        }

        int operand(int at) {
            return at >= 0 && at < length ? operands[at] : 0;
        }

        int number(int at) {
            return at >= 0 && at < length ? numbers[at] : 0;
        }

        int put(int operation, int operand) {
            return putCall(operation, operand, 0);
        }

        int putCall(int operation, int operand, int number) {
            if (length >= MOST_CODE) {
                return NONE;
            }
            operations[length] = operation;
            operands[length] = operand;
            numbers[length] = number;
            length++;
            return length - 1;
        }

        /** Jumps that wait for the same aim are a chain: the operand of each is the one before it, at last NONE. */
        void aimHere(int chain) {
            int jump = chain;
            for (int n = 0; n < MOST_CODE && jump >= 0 && jump < length; n++) {
                int before = operands[jump];
                operands[jump] = length;
                jump = before;
            }
        }
    }

    /**
     * Looks at a form and makes code of it, both from left to right in one go.
     *
     * A place is counted from the first argument of the function, or from the ground of the stack: it is known
     * for each form how many places are taken when it begins, so variables need no names when code is carried out.
     */
    private static final class Maker {
        private final Pairs pairs;
        private final Code code;
        private final int[] names = new int[MOST_STORE];
        private final int[] places = new int[MOST_STORE];
        private int known;

        Maker(Pairs pairs, Code code) {
            this.pairs = pairs;
            this.code = code;
        }

        int makeForm(int datum) {
            known = 0;
            int error = form(datum, 0, false, 0);
            code.put(DO_END, 0);
            return error;
        }

        int makeDefinition(int datum) {
            int name = pairs.item(datum, 1);
            if (pairs.lengthOf(datum) != 4 || !isSymbol(name) || name <= ERROR_NAME) {
                return SYNTAX;
            }
            int parameters = pairs.item(datum, 2);
            int count = pairs.lengthOf(parameters);
            if (count < 0 || count > MOST_PARAMETERS || !areVariables(parameters, count, false)) {
                return SYNTAX;
            }
            known = 0;
            for (int i = 0; i < count; i++) {
                know(pairs.item(parameters, i), i);
            }
            int error = form(pairs.item(datum, 3), count + 1, true, 0);
            code.put(DO_RETURN, 0);
            return error;
        }

        /** In couples each variable is the first of a list. */
        private boolean areVariables(int list, int count, boolean inCouples) {
            int rest = list;
            for (int i = 0; i < count; i++) {
                int name = nameIn(pairs.car(rest), inCouples);
                if (!mayBeVariable(name)) {
                    return false;
                }
                int earlier = list;
                for (int k = 0; k < i; k++) {
                    if (nameIn(pairs.car(earlier), inCouples) == name) {
                        return false;
                    }
                    earlier = pairs.cdr(earlier);
                }
                rest = pairs.cdr(rest);
            }
            return true;
        }

        private int nameIn(int datum, boolean inCouple) {
            return inCouple ? pairs.car(datum) : datum;
        }

        private static boolean mayBeVariable(int name) {
            return isSymbol(name) && name != NIL && name != T && name != QUOTE && name != DEFUN;
        }

        private void know(int name, int place) {
            if (known < MOST_STORE) {
                names[known] = name;
                places[known] = place;
                known++;
            }
        }

        private int form(int datum, int place, boolean tail, int level) {
            if (level > DEEPEST_LEVEL) {
                return SYNTAX;
            }
            code.put(DO_STEP, 0);
            if (isNumber(datum) || datum == NIL || datum == T) {
                code.put(DO_PUSH, datum);
                return FINE;
            }
            if (isSymbol(datum)) {
                return variable(datum);
            }
            int length = pairs.lengthOf(datum);
            if (length < 1 || !isSymbol(pairs.car(datum))) {
                return SYNTAX;
            }
            return list(datum, length - 1, place, tail, level + 1);
        }

        private int variable(int name) {
            for (int i = known - 1; i >= 0 && i < MOST_STORE; i--) {
                if (names[i] == name) {
                    code.put(DO_LOAD, places[i]);
                    return FINE;
                }
            }
            return UNKNOWN;
        }

        /** level is that of the forms in the list. */
        private int list(int datum, int count, int place, boolean tail, int level) {
            int head = pairs.car(datum);
            int rest = pairs.cdr(datum);
            switch (head) {
                case QUOTE: return quote(rest, count);
                case IF: return count == 3 ? choice(rest, place, tail, level) : SYNTAX;
                case LET: return count == 2 ? let(rest, place, tail, level) : SYNTAX;
                case COND: return areCouples(rest, count) ? clauses(rest, count, place, tail, level) : SYNTAX;
                case AND: case OR: return inTurn(head, rest, count, place, tail, level);
                case DEFUN: return SYNTAX;
                default: break;
            }
            if (isPrimitive(head) && count != argumentsOf(head)) {
                return ARGUMENTS;
            }
            int error = forms(rest, count, place, level);
            putUse(head, count, tail);
            return error;
        }

        private static boolean isPrimitive(int head) {
            return head >= CONS && head <= ERROR_NAME;
        }

        private static int argumentsOf(int head) {
            switch (head) {
                case CONS: case EQUAL: case PLUS: case MINUS: case LESS: return 2;
                default: return 1;
            }
        }

        private int forms(int list, int count, int place, int level) {
            int rest = list;
            for (int i = 0; i < count; i++) {
                int error = form(pairs.car(rest), place + i, false, level);
                if (error != FINE) {
                    return error;
                }
                rest = pairs.cdr(rest);
            }
            return FINE;
        }

        private int quote(int rest, int count) {
            if (count != 1) {
                return SYNTAX;
            }
            code.put(DO_PUSH, pairs.car(rest));
            return FINE;
        }

        /** What is done with the values of count forms when they lie on the stack. */
        private void putUse(int head, int count, boolean tail) {
            if (isPrimitive(head)) {
                code.put(head, 0);
            } else if (head == LIST) {
                code.put(DO_PUSH, NIL);
                for (int i = 0; i < count; i++) {
                    code.put(CONS, 0);
                }
            } else {
                code.putCall(tail ? DO_TAIL_CALL : DO_CALL, head, count);
            }
        }

        private int choice(int rest, int place, boolean tail, int level) {
            int error = form(pairs.car(rest), place, false, level);
            if (error != FINE) {
                return error;
            }
            int toOther = code.put(DO_JUMP_IF_NIL, NONE);
            error = form(pairs.item(rest, 1), place, tail, level);
            if (error != FINE) {
                return error;
            }
            int toEnd = code.put(DO_JUMP, NONE);
            code.aimHere(toOther);
            error = form(pairs.item(rest, 2), place, tail, level);
            code.aimHere(toEnd);
            return error;
        }

        private int let(int rest, int place, boolean tail, int level) {
            int couples = pairs.car(rest);
            int count = pairs.lengthOf(couples);
            if (count < 0 || !areCouples(couples, count) || !areVariables(couples, count, true)) {
                return SYNTAX;
            }
            for (int i = 0; i < count; i++) {
                int error = form(pairs.item(pairs.item(couples, i), 1), place + i, false, level);
                if (error != FINE) {
                    return error;
                }
            }
            int knownBefore = known;
            for (int i = 0; i < count; i++) {
                know(pairs.car(pairs.item(couples, i)), place + i);
            }
            int error = form(pairs.item(rest, 1), place + count, tail, level);
            known = knownBefore;
            code.put(DO_SLIDE, count);
            return error;
        }

        private boolean areCouples(int list, int count) {
            int rest = list;
            for (int i = 0; i < count; i++) {
                if (pairs.lengthOf(pairs.car(rest)) != 2) {
                    return false;
                }
                rest = pairs.cdr(rest);
            }
            return true;
        }

        private int clauses(int list, int count, int place, boolean tail, int level) {
            int toEnd = NONE;
            int rest = list;
            for (int i = 0; i < count; i++) {
                int clause = pairs.car(rest);
                int error = form(pairs.car(clause), place, false, level);
                if (error != FINE) {
                    return error;
                }
                int toNext = code.put(DO_JUMP_IF_NIL, NONE);
                error = form(pairs.item(clause, 1), place, tail, level);
                if (error != FINE) {
                    return error;
                }
                toEnd = code.put(DO_JUMP, toEnd);
                code.aimHere(toNext);
                rest = pairs.cdr(rest);
            }
            code.put(DO_PUSH, NIL);
            code.aimHere(toEnd);
            return FINE;
        }

        /** and, or: a value that settles it is kept, and a jump leads from it to the end. */
        private int inTurn(int head, int list, int count, int place, boolean tail, int level) {
            if (count == 0) {
                code.put(DO_PUSH, head == AND ? T : NIL);
                return FINE;
            }
            int toEnd = NONE;
            int rest = list;
            for (int i = 0; i < count - 1; i++) {
                int error = form(pairs.car(rest), place, false, level);
                if (error != FINE) {
                    return error;
                }
                toEnd = code.put(head == AND ? DO_KEEP_NIL : DO_KEEP_OTHERS, toEnd);
                rest = pairs.cdr(rest);
            }
            int error = form(pairs.car(rest), place, tail, level);
            code.aimHere(toEnd);
            return error;
        }
    }

    /** What each symbol means as a function. */
    private static final class Functions {
        private final Pairs pairs;
        private final boolean[] defined = new boolean[MOST_SYMBOLS];
        private final int[] parameters = new int[MOST_SYMBOLS];
        private final int[] arities = new int[MOST_SYMBOLS];
        private final int[] bodies = new int[MOST_SYMBOLS];
        private final int[] starts = new int[MOST_SYMBOLS];
        private int known;

        Functions(Pairs pairs) {
            this.pairs = pairs;
        }

        int known() {
            return known;
        }

        int add(int definition, int start) {
            int index = pairs.item(definition, 1) - SYMBOL_KIND;
            if (index < 0 || index >= MOST_SYMBOLS) {
                return SYNTAX;
            }
            int list = pairs.item(definition, 2);
            int body = pairs.item(definition, 3);
            if (defined[index]) {
                return areSame(list, parameters[index]) && areSame(body, bodies[index]) ? FINE : REDEFINED;
            }
            if (known >= MOST_FUNCTIONS) {
                return FULL;
            }
            defined[index] = true;
            parameters[index] = list;
            arities[index] = pairs.lengthOf(list);
            bodies[index] = body;
            starts[index] = start;
            known++;
            return FINE;
        }

        private boolean areSame(int one, int other) {
            return pairs.compare(one, other, MOST_TURNS) == SAME;
        }

        int refusal(int name, int arguments) {
            int index = name - SYMBOL_KIND;
            if (index < 0 || index >= MOST_SYMBOLS || !defined[index]) {
                return UNDEFINED;
            }
            return arities[index] == arguments ? FINE : ARGUMENTS;
        }

        int start(int name) {
            int index = name - SYMBOL_KIND;
            return index >= 0 && index < MOST_SYMBOLS ? starts[index] : NONE;
        }
    }

    /** Carries code out on the stack. */
    private static final class Machine {
        private final Pairs pairs;
        private final Code code;
        private final Functions functions;
        private final int[] stack = new int[MOST_PLACES];

        /** Behind each empty place: where its call came from. */
        private final int[] callers = new int[MOST_PLACES];
        private final int[] callerFrames = new int[MOST_PLACES];
        private final int[] callerHoles = new int[MOST_PLACES];
        private int height;
        private int frame;
        private int hole;
        private int at;
        private int fuel;
        private int steps;
        private int mostTaken;

        Machine(Pairs pairs, Code code, Functions functions) {
            this.pairs = pairs;
            this.code = code;
            this.functions = functions;
        }

        int steps() {
            return steps;
        }

        int mostTaken() {
            return mostTaken;
        }

        int value() {
            return below(0);
        }

        void begin(int newFuel) {
            fuel = newFuel;
            steps = 0;
            mostTaken = 0;
        }

        int execute(int start) {
            at = start;
            height = 0;
            frame = 0;
            hole = NONE;
            for (int n = 0; n < MOST_TURNS; n++) {
                int operation = code.operation(at);
                if (operation == DO_END) {
                    return FINE;
                }
                int error = perform(operation, code.operand(at), code.number(at));
                if (error != FINE) {
                    return error;
                }
            }
            return FUEL;
        }

        private int perform(int operation, int operand, int number) {
            at++;
            switch (operation) {
                case DO_STEP: return takeStep();
                case DO_PUSH: return push(operand);
                case DO_LOAD: return push(variable(operand));
                case DO_JUMP: return jump(operand);
                case DO_JUMP_IF_NIL: return jumpIfNil(operand);
                case DO_KEEP_NIL: return keepOrDrop(below(0) == NIL, operand);
                case DO_KEEP_OTHERS: return keepOrDrop(below(0) != NIL, operand);
                case DO_SLIDE: return replace(operand + 1, below(0));
                case DO_CALL: return enter(operand, number);
                case DO_TAIL_CALL: return enterInstead(operand, number);
                case DO_RETURN: return leave();
                case CONS: return makePair();
                case EQUAL: return compare();
                case PLUS: return add();
                default: return primitive(operation);
            }
        }

        private int takeStep() {
            if (steps >= fuel) {
                return FUEL;
            }
            steps++;
            return FINE;
        }

        private int push(int datum) {
            if (height < 0 || height >= MOST_PLACES) {
                return DEEP;
            }
            stack[height] = datum;
            height++;
            if (height > mostTaken) {
                mostTaken = height;
            }
            return FINE;
        }

        private int below(int k) {
            int place = height - 1 - k;
            return place >= 0 && place < MOST_PLACES ? stack[place] : NIL;
        }

        private int variable(int k) {
            int place = frame + k;
            return place >= 0 && place < MOST_PLACES ? stack[place] : NIL;
        }

        private int replace(int taken, int datum) {
            height = Math.max(0, height - taken);
            return push(datum);
        }

        private int jump(int aim) {
            at = aim;
            return FINE;
        }

        private int jumpIfNil(int aim) {
            boolean isNil = below(0) == NIL;
            drop();
            return isNil ? jump(aim) : FINE;
        }

        private int keepOrDrop(boolean keeps, int aim) {
            if (keeps) {
                return jump(aim);
            }
            drop();
            return FINE;
        }

        private void drop() {
            height = Math.max(0, height - 1);
        }

        /** The two stay on the stack till the pair is made, so that they are not collected. */
        private int makePair() {
            if (!pairs.hasRoom()) {
                pairs.collect(stack, height);
            }
            int pair = pairs.make(below(1), below(0));
            return pair < 0 ? -pair : replace(2, pair);
        }

        private int primitive(int name) {
            int last = below(0);
            switch (name) {
                case CAR: return replace(1, pairs.car(last));
                case CDR: return replace(1, pairs.cdr(last));
                case CONSP: return replace(1, truth(isPair(last)));
                case NATP: return replace(1, truth(isNumber(last)));
                case SYMBOLP: return replace(1, truth(isSymbol(last)));
                case MINUS: return replace(2, Math.max(0, asNumber(below(1)) - asNumber(last)));
                case LESS: return replace(2, truth(asNumber(below(1)) < asNumber(last)));
                default: return ERROR;
            }
        }

        private static int truth(boolean holds) {
            return holds ? T : NIL;
        }

        private static int asNumber(int datum) {
            return isNumber(datum) ? datum : 0;
        }

        private int add() {
            int sum = asNumber(below(1)) + asNumber(below(0));
            return sum > LARGEST_NUMBER ? OVERFLOW : replace(2, sum);
        }

        private int compare() {
            int answer = pairs.compare(below(1), below(0), fuel - steps);
            steps += pairs.compared();
            return answer == OUT_OF_STEPS ? FUEL : replace(2, truth(answer == SAME));
        }

        private int enter(int name, int arguments) {
            int error = functions.refusal(name, arguments);
            if (error != FINE) {
                return error;
            }
            int newFrame = height - arguments;
            int newHole = height;
            error = push(NIL);
            if (error != FINE) {
                return error;
            }
            remember(newHole, at, frame, hole);
            frame = newFrame;
            hole = newHole;
            return jump(functions.start(name));
        }

        private int enterInstead(int name, int arguments) {
            int error = functions.refusal(name, arguments);
            if (error != FINE) {
                return error;
            }
            int first = height - arguments;
            int newHole = frame + arguments;
            if (frame < 0 || hole < frame || first <= hole || newHole >= MOST_PLACES || height > MOST_PLACES) {
                return DEEP;
            }
            System.arraycopy(stack, first, stack, frame, arguments);
            remember(newHole, callers[hole], callerFrames[hole], callerHoles[hole]);
            hole = newHole;
            height = newHole;
            error = push(NIL);
            return error == FINE ? jump(functions.start(name)) : error;
        }

        private void remember(int place, int caller, int callerFrame, int callerHole) {
            if (place >= 0 && place < MOST_PLACES) {
                callers[place] = caller;
                callerFrames[place] = callerFrame;
                callerHoles[place] = callerHole;
            }
        }

        private int leave() {
            if (hole < 0 || hole >= MOST_PLACES) {
                return DEEP;
            }
            int error = replace(height - frame, below(0));
            int left = hole;
            frame = callerFrames[left];
            hole = callerHoles[left];
            at = callers[left];
            return error;
        }
    }

    /** The output of the latest run. */
    private static final class Paper {
        private final Symbols symbols;
        private final Pairs pairs;
        private final char[] letters = new char[MOST_OUTPUT];

        /** What is still to be printed: data, and as -1 - rest the rests of lists whose beginning was printed. */
        private final int[] waiting = new int[MOST_WAITING];
        private int length;
        private int waitingOnes;

        Paper(Symbols symbols, Pairs pairs) {
            this.symbols = symbols;
            this.pairs = pairs;
        }

        int length() {
            return length;
        }

        char letter(int k) {
            return k >= 0 && k < length ? letters[k] : ' ';
        }

        void begin() {
            length = 0;
        }

        void printError(int error) {
            put('!');
            printNumber(error);
            put('\n');
        }

        /** Stops when the paper is full, since shared pairs could make a value too long to be gone through. */
        void printLine(int datum) {
            waitingOnes = 0;
            await(datum);
            for (int n = 0; n < MOST_TURNS && waitingOnes > 0 && length < MOST_OUTPUT; n++) {
                waitingOnes--;
                int next = waiting[waitingOnes];
                if (next >= 0) {
                    printDatum(next);
                } else {
                    printRest(-1 - next);
                }
            }
            put('\n');
        }

        private void await(int item) {
            if (waitingOnes < MOST_WAITING) {
                waiting[waitingOnes] = item;
                waitingOnes++;
            }
        }

        private void printDatum(int datum) {
            if (isPair(datum)) {
                put('(');
                awaitPartsOf(datum);
            } else {
                printAtom(datum);
            }
        }

        private void printRest(int rest) {
            if (isPair(rest)) {
                put(' ');
                awaitPartsOf(rest);
                return;
            }
            if (rest != NIL) {
                put(' ');
                put('.');
                put(' ');
                printAtom(rest);
            }
            put(')');
        }

        private void awaitPartsOf(int pair) {
            await(-1 - pairs.cdr(pair));
            await(pairs.car(pair));
        }

        private void printAtom(int atom) {
            if (isNumber(atom)) {
                printNumber(atom);
                return;
            }
            int count = symbols.length(atom);
            for (int k = 0; k < count; k++) {
                put(symbols.letter(atom, k));
            }
        }

        private void printNumber(int number) {
            int rest = number;
            boolean begun = false;
            for (int power = LARGEST_POWER; power > 0; power /= 10) {
                int digit = rest / power;
                rest -= digit * power;
                begun = begun || digit > 0 || power == 1;
                if (begun) {
                    put((char) ('0' + digit));
                }
            }
        }

        private void put(char c) {
            if (length < MOST_OUTPUT) {
                letters[length] = c;
                length++;
            }
        }
    }
}

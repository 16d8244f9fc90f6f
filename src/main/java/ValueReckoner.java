import java.util.ArrayList;

/** Reads expressions as terms from a tape of bytes and works them out, with variables that have values. */
public final class ValueReckoner {
    private static final int MOST_BYTES = 4096;
    private static final int BYTES_OF_A_FEED = 20;
    private static final int MOST_VARIABLES = 50;
    private static final int MOST_ARGUMENTS = 8;
    private static final int MOST_OPEN_TERMS = 100;
    private static final int MOST_SYMBOLS = 1000;
    private static final long GREATEST = 9007199254740991L;

    private static final int PRIORITY_OF_ALL = 1200;
    private static final int PRIORITY_OF_ARGUMENT = 999;

    private static final int NO_ERROR = 0;
    private static final int NO_VALUE = 1;
    private static final int NO_EXPRESSION = 2;
    private static final int BY_ZERO = 3;
    private static final int TOO_GREAT = 4;

    private static final int NO_PLACE = -1;
    private static final int PLACE_OF_SOMETHING_ELSE = 0;

    private final Tape tape;
    private final Variables variables;
    private final Reader reader;
    private int place;
    private int error;

    public ValueReckoner() {
        tape = new Tape();
        variables = new Variables();
        reader = new Reader(tape, variables);
        place = NO_PLACE;
        error = NO_ERROR;
    }

    public int feed(int a, int b, int c, int d, int e) throws IndexOutOfBoundsException {
        if (tape.length + BYTES_OF_A_FEED > MOST_BYTES) {
            throw new IndexOutOfBoundsException();
        }
        tape.append(a);
        tape.append(b);
        tape.append(c);
        tape.append(d);
        tape.append(e);
        return tape.length;
    }

    public int end(int n) throws IllegalArgumentException {
        if (n < 0 || n > tape.length) {
            throw new IllegalArgumentException();
        }
        tape.length = n;
        return n;
    }

    public long value() throws ArithmeticException, UnsupportedOperationException {
        reader.read();
        finishReading();
        refuseError(reader.latest.error);
        return reader.latest.number;
    }

    public int let() throws ArithmeticException, UnsupportedOperationException, IndexOutOfBoundsException {
        reader.read();
        finishReading();
        Operand target = reader.left;
        refuseSomethingElse(reader.outermost == Name.IS && target.isNamedVariable());
        refuseError(reader.right.error);
        Variable known = variables.find(tape.bytes, target.nameFrom, target.nameTo);
        if (known != null) {
            known.number = reader.right.number;
        } else if (variables.isFull()) {
            throw new IndexOutOfBoundsException();
        } else {
            variables.add(tape.bytes, target.nameFrom, target.nameTo, reader.right.number);
        }
        return variables.held.size();
    }

    public boolean holds() throws ArithmeticException, UnsupportedOperationException {
        reader.read();
        finishReading();
        refuseSomethingElse(reader.outermost.isComparison());
        refuseError(reader.left.error);
        refuseError(reader.right.error);
        return reader.outermost.isTrueOf(reader.left.number, reader.right.number);
    }

    public int clear() {
        int before = variables.held.size();
        variables.held.clear();
        return before;
    }

    public int count(int what) throws IllegalArgumentException {
        switch (what) {
            case 0:
                return tape.length;
            case 1:
                return place;
            case 2:
                return error;
            default:
                throw new IllegalArgumentException();
        }
    }

    /** The bytes themselves stay until the next feed, so that let can still copy the name that was read. */
    private void finishReading() throws UnsupportedOperationException {
        tape.length = 0;
        place = reader.place;
        error = NO_ERROR;
        if (place != NO_PLACE) {
            throw new UnsupportedOperationException();
        }
    }

    private void refuseSomethingElse(boolean isAsked) throws UnsupportedOperationException {
        if (!isAsked) {
            place = PLACE_OF_SOMETHING_ELSE;
            throw new UnsupportedOperationException();
        }
    }

    private void refuseError(int found) throws ArithmeticException {
        if (found != NO_ERROR) {
            error = found;
            throw new ArithmeticException();
        }
    }

    private static final class Tape {
        static final int NOTHING = -1;

        final byte[] bytes = new byte[MOST_BYTES];
        int length;

        void append(int word) {
            for (int shift = 24; shift >= 0 && length < MOST_BYTES; shift -= 8) {
                bytes[length] = (byte) (word >>> shift);
                length++;
            }
        }

        int at(int index) {
            return index >= 0 && index < length ? bytes[index] & 0xFF : NOTHING;
        }
    }

    private static final class Variable {
        final byte[] name;
        long number;

        Variable(byte[] name, long number) {
            this.name = name;
            this.number = number;
        }

        boolean isNamed(byte[] row, int from, int to) {
            if (from < 0 || to > row.length || to - from != name.length) {
                return false;
            }
            for (int i = 0; i < name.length; i++) {
                if (name[i] != row[from + i]) {
                    return false;
                }
            }
            return true;
        }
    }

    private static final class Variables {
        final ArrayList<Variable> held = new ArrayList<>();

        boolean isFull() {
            return held.size() >= MOST_VARIABLES;
        }

        Variable find(byte[] row, int from, int to) {
            for (int i = 0; i < held.size(); i++) {
                if (held.get(i).isNamed(row, from, to)) {
                    return held.get(i);
                }
            }
            return null;
        }

        void add(byte[] row, int from, int to, long number) {
            byte[] name = new byte[to - from];
            System.arraycopy(row, from, name, 0, name.length);
            held.add(new Variable(name, number));
        }
    }

    /**
     * The names that mean something, each with its priority between two sides, the highest priorities that may
     * stand left and right of it, and its priority as a prefix (0: it is no such operator).
     */
    private enum Name {
        // OTHER stands first, so that the empty name is found as it and never as COMMA, which no name spells.
        OTHER("", 0, 0, 0, 0),
        COMMA("", 1000, 999, 1000, 0),
        RULE(":-", 1200, 1199, 1199, 0),
        OR(";", 1100, 1099, 1100, 0),
        THEN("->", 1050, 1049, 1050, 0),
        NOT("\\+", 0, 0, 0, 900),
        UNIFIES("=", 700, 699, 699, 0),
        UNIFIES_NOT("\\=", 700, 699, 699, 0),
        SAME("==", 700, 699, 699, 0),
        NOT_SAME("\\==", 700, 699, 699, 0),
        IS("is", 700, 699, 699, 0),
        LESS("<", 700, 699, 699, 0),
        GREATER(">", 700, 699, 699, 0),
        NOT_GREATER("=<", 700, 699, 699, 0),
        NOT_LESS(">=", 700, 699, 699, 0),
        EQUAL("=:=", 700, 699, 699, 0),
        UNEQUAL("=\\=", 700, 699, 699, 0),
        PLUS("+", 500, 500, 499, 0),
        MINUS("-", 500, 500, 499, 200),
        TIMES("*", 400, 400, 399, 0),
        QUOTIENT("//", 400, 400, 399, 0),
        MOD("mod", 400, 400, 399, 0),
        REM("rem", 400, 400, 399, 0),
        ABS("abs", 0, 0, 0, 0),
        MIN("min", 0, 0, 0, 0),
        MAX("max", 0, 0, 0, 0);

        private static final Name[] ALL = values();

        private final String text;
        private final int infix;
        private final int mostLeft;
        private final int mostRight;
        private final int prefix;

        Name(String text, int infix, int mostLeft, int mostRight, int prefix) {
            this.text = text;
            this.infix = infix;
            this.mostLeft = mostLeft;
            this.mostRight = mostRight;
            this.prefix = prefix;
        }

        static Name spelled(Tape tape, int from, int to) {
            for (int i = 0; i < ALL.length; i++) {
                if (ALL[i].isSpelled(tape, from, to)) {
                    return ALL[i];
                }
            }
            return OTHER;
        }

        private boolean isSpelled(Tape tape, int from, int to) {
            if (text.length() != to - from) {
                return false;
            }
            for (int i = 0; i < text.length(); i++) {
                if (text.charAt(i) != tape.at(from + i)) {
                    return false;
                }
            }
            return true;
        }

        boolean isOfOne() {
            return this == MINUS || this == ABS;
        }

        boolean isOfTwo() {
            return this == PLUS || this == MINUS || this == TIMES || divides() || this == MIN || this == MAX;
        }

        boolean divides() {
            return this == QUOTIENT || this == MOD || this == REM;
        }

        boolean isComparison() {
            return this == LESS || this == GREATER || this == NOT_GREATER || this == NOT_LESS
                || this == EQUAL || this == UNEQUAL;
        }

        boolean isTrueOf(long a, long b) {
            switch (this) {
                case LESS:
                    return a < b;
                case GREATER:
                    return a > b;
                case NOT_GREATER:
                    return a <= b;
                case NOT_LESS:
                    return a >= b;
                case EQUAL:
                    return a == b;
                default:
                    return a != b;
            }
        }

        /** Of a number by 0 it answers 0: that is an error, which the caller has looked for already. */
        long resultOf(long a, long b) {
            switch (this) {
                case PLUS:
                    return a + b;
                case MINUS:
                    return a - b;
                case TIMES:
                    return a * b;
                case QUOTIENT:
                    return b == 0 ? 0 : a / b;
                case MOD:
                    return b == 0 ? 0 : Math.floorMod(a, b);
                case REM:
                    return b == 0 ? 0 : a % b;
                case MIN:
                    return Math.min(a, b);
                default:
                    return Math.max(a, b);
            }
        }
    }

    /** BAD is all that can stand nowhere: a byte that begins no sign, a sign that is broken in itself, { and }. */
    private enum Kind { VARIABLE, INTEGER, NAME, OPEN, CLOSE, OPEN_LIST, CLOSE_LIST, COMMA, BAR, END, NOTHING, BAD }

    /** The sign of the tape that is looked at, one at a time. */
    private static final class Sign {
        private final Tape tape;
        private Kind kind;
        private int place;
        private int after;
        private long number;
        private Name name;
        private int nameFrom;
        private int nameTo;

        Sign(Tape tape) {
            this.tape = tape;
            kind = Kind.NOTHING;
            name = Name.OTHER;
        }

        void first() {
            after = 0;
            next();
        }

        void next() {
            place = pastBlanks();
            int b = tape.at(place);
            if (isCapital(b)) {
                become(Kind.VARIABLE, pastLetters());
            } else if (isDigit(b)) {
                becomeInteger();
            } else if (isSmall(b)) {
                becomeName(pastLetters());
            } else if (b == '\'') {
                becomeQuotedName();
            } else if (isSymbol(b)) {
                becomeSymbolName();
            } else {
                becomeMark(b);
            }
            name = kind == Kind.NAME ? Name.spelled(tape, nameFrom, nameTo)
                : kind == Kind.COMMA ? Name.COMMA : Name.OTHER;
        }

        private void become(Kind kind, int after) {
            this.kind = kind;
            this.after = after;
        }

        private void becomeName(int after) {
            kind = Kind.NAME;
            this.after = after;
            nameFrom = place;
            nameTo = after;
        }

        private void becomeInteger() {
            number = 0;
            int i = place;
            while (i < tape.length && isDigit(tape.at(i))) {
                number = Math.min(number * 10 + tape.at(i) - '0', GREATEST + 1);
                i++;
            }
            become(number > GREATEST ? Kind.BAD : Kind.INTEGER, i);
        }

        /** No name that means something has a ' in it, so a doubled one may stay doubled. */
        private void becomeQuotedName() {
            int i = place + 1;
            while (i < tape.length && isInsideQuotes(i)) {
                i += tape.at(i) == '\'' ? 2 : 1;
            }
            if (tape.at(i) == '\'') {
                become(Kind.NAME, i + 1);
                nameFrom = place + 1;
                nameTo = i;
            } else {
                become(Kind.BAD, place + 1);
            }
        }

        private boolean isInsideQuotes(int index) {
            int b = tape.at(index);
            return b == '\'' ? tape.at(index + 1) == '\'' : b >= 32 && b <= 126;
        }

        private void becomeSymbolName() {
            int i = place + 1;
            while (i < tape.length && isSymbol(tape.at(i))) {
                i++;
            }
            becomeName(i);
            boolean isPoint = i == place + 1 && tape.at(place) == '.';
            int behind = tape.at(i);
            if (isPoint && (behind == Tape.NOTHING || behind == '%' || isBlank(behind))) {
                kind = Kind.END;
            }
        }

        private void becomeMark(int b) {
            if (b == '[' && tape.at(place + 1) == ']') {
                becomeName(place + 2);
            } else if (b == '!' || b == ';') {
                becomeName(place + 1);
            } else if (b == Tape.NOTHING) {
                become(Kind.NOTHING, place);
            } else {
                become(kindOfMark(b), place + 1);
            }
        }

        private static Kind kindOfMark(int b) {
            switch (b) {
                case '(':
                    return Kind.OPEN;
                case ')':
                    return Kind.CLOSE;
                case '[':
                    return Kind.OPEN_LIST;
                case ']':
                    return Kind.CLOSE_LIST;
                case ',':
                    return Kind.COMMA;
                case '|':
                    return Kind.BAR;
                default:
                    return Kind.BAD;
            }
        }

        private int pastBlanks() {
            boolean inComment = false;
            for (int i = after; i < tape.length; i++) {
                int b = tape.at(i);
                if (inComment) {
                    inComment = b != '\n';
                } else if (b == '%') {
                    inComment = true;
                } else if (!isBlank(b)) {
                    return i;
                }
            }
            return tape.length;
        }

        private int pastLetters() {
            for (int i = place; i < tape.length; i++) {
                int b = tape.at(i);
                if (!isCapital(b) && !isSmall(b) && !isDigit(b)) {
                    return i;
                }
            }
            return tape.length;
        }

        private static boolean isBlank(int b) {
            return b == 9 || b == 10 || b == 13 || b == 32;
        }

        private static boolean isCapital(int b) {
            return b >= 'A' && b <= 'Z' || b == '_';
        }

        private static boolean isSmall(int b) {
            return b >= 'a' && b <= 'z';
        }

        private static boolean isDigit(int b) {
            return b >= '0' && b <= '9';
        }

        private static boolean isSymbol(int b) {
            switch (b) {
                case '+': case '-': case '*': case '/': case '\\': case '^': case '<': case '>': case '=':
                case '~': case ':': case '.': case '?': case '@': case '#': case '&': case '$':
                    return true;
                default:
                    return false;
            }
        }
    }

    /** What a term is worth: a number, or the error that is found in it. */
    private static final class Operand {
        private int error;
        private long number;
        // Where the name of the variable stands that the term is: nowhere, if it is none or _.
        private int nameFrom;
        private int nameTo;

        boolean isNamedVariable() {
            return nameFrom < nameTo;
        }

        void copy(Operand other) {
            error = other.error;
            number = other.number;
            nameFrom = other.nameFrom;
            nameTo = other.nameTo;
        }

        void nameVariable(int from, int to) {
            nameFrom = from;
            nameTo = to;
        }

        void settle(long result) {
            boolean fits = result <= GREATEST && result >= -GREATEST;
            error = fits ? NO_ERROR : TOO_GREAT;
            number = fits ? result : 0;
            nameFrom = 0;
            nameTo = 0;
        }

        void fail(int found) {
            error = found;
            number = 0;
            nameFrom = 0;
            nameTo = 0;
        }

        void reckonOne(Name name) {
            int wrong = name.isOfOne() ? error : NO_EXPRESSION;
            if (wrong != NO_ERROR) {
                fail(wrong);
            } else {
                settle(name == Name.MINUS ? -number : Math.abs(number));
            }
        }

        void reckonTwo(Name name, Operand first) {
            int wrongSide = first.error != NO_ERROR ? first.error : error;
            int wrong = name.isOfTwo() ? wrongSide : NO_EXPRESSION;
            if (wrong != NO_ERROR) {
                fail(wrong);
            } else if (name.divides() && number == 0) {
                fail(BY_ZERO);
            } else if (name == Name.TIMES && isProductTooGreat(first.number, number)) {
                fail(TOO_GREAT);
            } else {
                settle(name.resultOf(first.number, number));
            }
        }

        private static boolean isProductTooGreat(long a, long b) {
            return a != 0 && Math.abs(b) > GREATEST / Math.abs(a);
        }
    }

    /** What a term that has begun is for. */
    private enum Role { WHOLE, PARENTHESES, PREFIXED, RIGHT_SIDE, ARGUMENT, ELEMENT, TAIL }

    /** A term that has begun and not ended. */
    private static final class OpenTerm {
        private Role role;
        private Name name;
        private int most;
        private int priority;
        private int arguments;
        private final Operand first = new Operand();

        OpenTerm() {
            role = Role.WHOLE;
            name = Name.OTHER;
        }
    }

    /**
     * Reads the tape as one term. Open terms stand in a row and not in calls within calls, and a term is worked out
     * as soon as it ends: of it only its worth is kept, and of the outermost one also that of its two sides.
     */
    private static final class Reader {
        // Each step takes a sign or ends a term that a sign began.
        private static final int MOST_STEPS = 4 * MOST_BYTES;

        private final Tape tape;
        private final Variables variables;
        private final Sign sign;
        private final OpenTerm[] open;
        private int depth;
        private boolean isOperandDue;
        private boolean isDone;
        private int symbols;
        private int place;
        private Name outermost;
        private final Operand left;
        private final Operand right;
        private final Operand latest;

        Reader(Tape tape, Variables variables) {
            this.tape = tape;
            this.variables = variables;
            sign = new Sign(tape);
            open = new OpenTerm[MOST_OPEN_TERMS];
            for (int i = 0; i < MOST_OPEN_TERMS; i++) {
                open[i] = new OpenTerm();
            }
            outermost = Name.OTHER;
            left = new Operand();
            right = new Operand();
            latest = new Operand();
        }

        void read() {
            depth = 0;
            isDone = false;
            symbols = 0;
            place = NO_PLACE;
            outermost = Name.OTHER;
            sign.first();
            int firstPlace = sign.place;
            begin(Role.WHOLE, Name.OTHER, PRIORITY_OF_ALL);
            for (int step = 0; step < MOST_STEPS && !isDone && place == NO_PLACE; step++) {
                if (!isOperandDue) {
                    goOn();
                } else if (sign.kind == Kind.NAME) {
                    readName();
                } else {
                    readOperand();
                }
            }
            if (place == NO_PLACE && symbols > MOST_SYMBOLS) {
                place = firstPlace;
            }
        }

        private void breakHere() {
            place = sign.place;
        }

        private OpenTerm innermost() {
            return open[depth > 0 ? depth - 1 : 0];
        }

        private void begin(Role role, Name name, int most) {
            if (depth >= MOST_OPEN_TERMS) {
                breakHere();
                return;
            }
            OpenTerm term = open[depth];
            depth++;
            term.role = role;
            term.name = name;
            term.most = most;
            term.arguments = 0;
            term.first.copy(latest);
            isOperandDue = true;
        }

        /** The innermost term has ended; the one around it has an operand of that priority now. */
        private void leave(int priority) {
            depth--;
            innermost().priority = priority;
        }

        private void readOperand() {
            switch (sign.kind) {
                case VARIABLE:
                    readVariable();
                    break;
                case INTEGER:
                    readInteger(sign.number);
                    break;
                case OPEN:
                    sign.next();
                    begin(Role.PARENTHESES, Name.OTHER, PRIORITY_OF_ALL);
                    break;
                case OPEN_LIST:
                    sign.next();
                    begin(Role.ELEMENT, Name.OTHER, PRIORITY_OF_ARGUMENT);
                    break;
                default:
                    breakHere();
            }
        }

        private void readVariable() {
            Variable known = variables.find(tape.bytes, sign.place, sign.after);
            if (known == null) {
                latest.fail(NO_VALUE);
            } else {
                latest.settle(known.number);
            }
            boolean isNameless = sign.after == sign.place + 1 && tape.at(sign.place) == '_';
            if (!isNameless) {
                latest.nameVariable(sign.place, sign.after);
            }
            sign.next();
            haveSimpleOperand();
        }

        private void readInteger(long number) {
            latest.settle(number);
            sign.next();
            haveSimpleOperand();
        }

        private void haveSimpleOperand() {
            symbols++;
            innermost().priority = 0;
            isOperandDue = false;
        }

        private void readName() {
            Name name = sign.name;
            int behind = sign.after;
            sign.next();
            boolean isRightBehind = sign.place == behind;
            if (isRightBehind && sign.kind == Kind.OPEN) {
                sign.next();
                begin(Role.ARGUMENT, name, PRIORITY_OF_ARGUMENT);
            } else if (isRightBehind && sign.kind == Kind.INTEGER && name == Name.MINUS) {
                readInteger(-sign.number);
            } else if (name.prefix > 0 && name.prefix <= innermost().most && canTermBegin()) {
                begin(Role.PREFIXED, name, name.prefix);
            } else {
                latest.fail(NO_EXPRESSION);
                haveSimpleOperand();
            }
        }

        /** By the document a name that can stand between two sides begins no term behind a prefix, even with a (. */
        private boolean canTermBegin() {
            switch (sign.kind) {
                case NAME:
                    return sign.name.prefix > 0 || sign.name.infix == 0;
                case CLOSE: case CLOSE_LIST: case COMMA: case BAR: case END:
                    return false;
                default:
                    return true;
            }
        }

        private void goOn() {
            OpenTerm term = innermost();
            Name name = sign.name;
            if (name.infix > 0 && name.infix <= term.most && term.priority <= name.mostLeft) {
                sign.next();
                begin(Role.RIGHT_SIDE, name, name.mostRight);
                return;
            }
            switch (term.role) {
                case PARENTHESES:
                    endParentheses();
                    break;
                case PREFIXED:
                    combine(term.name, 1, term.first);
                    leave(term.name.prefix);
                    break;
                case RIGHT_SIDE:
                    combine(term.name, 2, term.first);
                    leave(term.name.infix);
                    break;
                case ARGUMENT:
                    endArgument(term);
                    break;
                case ELEMENT:
                    endElement(term);
                    break;
                case TAIL:
                    endList();
                    break;
                default:
                    endWhole();
            }
        }

        private void endWhole() {
            if (sign.kind == Kind.END) {
                sign.next();
                isDone = sign.kind == Kind.NOTHING;
            }
            if (!isDone) {
                breakHere();
            }
        }

        private void endParentheses() {
            if (sign.kind == Kind.CLOSE) {
                sign.next();
                leave(0);
            } else {
                breakHere();
            }
        }

        private void endArgument(OpenTerm term) {
            term.arguments++;
            if (term.arguments == 1) {
                term.first.copy(latest);
            }
            if (sign.kind == Kind.CLOSE) {
                sign.next();
                combine(term.name, term.arguments, term.first);
                leave(0);
            } else if (sign.kind == Kind.COMMA) {
                sign.next();
                isOperandDue = true;
                if (term.arguments == MOST_ARGUMENTS) {
                    breakHere();
                }
            } else {
                breakHere();
            }
        }

        /** Each element counts the '.' that holds it as a symbol, and a list without | its [] at the end. */
        private void endElement(OpenTerm term) {
            if (sign.kind == Kind.CLOSE_LIST) {
                symbols += 2;
                endList();
            } else if (sign.kind == Kind.COMMA || sign.kind == Kind.BAR) {
                symbols++;
                term.role = sign.kind == Kind.BAR ? Role.TAIL : Role.ELEMENT;
                sign.next();
                isOperandDue = true;
            } else {
                breakHere();
            }
        }

        private void endList() {
            if (sign.kind == Kind.CLOSE_LIST) {
                sign.next();
                outermost = Name.OTHER;
                latest.fail(NO_EXPRESSION);
                leave(0);
            } else {
                breakHere();
            }
        }

        /** The latest operand becomes the compound of that name, of which it was the last argument. */
        private void combine(Name name, int arguments, Operand first) {
            symbols++;
            outermost = arguments == 2 ? name : Name.OTHER;
            left.copy(first);
            right.copy(latest);
            if (arguments == 1) {
                latest.reckonOne(name);
            } else if (arguments == 2) {
                latest.reckonTwo(name, first);
            } else {
                latest.fail(NO_EXPRESSION);
            }
        }
    }
}

/** TERM, T(n), the OPERATORS and PREFIX: for each sentence what may still stand there and what may not any more. */
public final class BoundsOfOperatorsTest {
    /** An operator with its n, and the highest n of what may stand left and right of it. */
    private record Infix(String text, int n, int left, int right) { }

    private static final Infix[] INFIXES = {
        new Infix(":-", 1200, 1199, 1199), new Infix(";", 1100, 1099, 1100), new Infix("->", 1050, 1049, 1050),
        new Infix(",", 1000, 999, 1000), new Infix("=", 700, 699, 699), new Infix("\\=", 700, 699, 699),
        new Infix("==", 700, 699, 699), new Infix("\\==", 700, 699, 699), new Infix("is", 700, 699, 699),
        new Infix("<", 700, 699, 699), new Infix(">", 700, 699, 699), new Infix("=<", 700, 699, 699),
        new Infix(">=", 700, 699, 699), new Infix("=:=", 700, 699, 699), new Infix("=\\=", 700, 699, 699),
        new Infix("+", 500, 500, 499), new Infix("-", 500, 500, 499), new Infix("*", 400, 400, 399),
        new Infix("//", 400, 400, 399), new Infix("mod", 400, 400, 399), new Infix("rem", 400, 400, 399)};
    private static final String[] NO_OPERATORS = {"**", "^", "/", "|", "<=", "=>", ">>", "<<", "=..", "@<", ":", "?-", "-->",
        "xor", "div", "not", "\\", "\\\\+", "abs", "min", "max", "''", "'mod '", "'MOD'", "[]", "!"};

    public static void main(String[] args) {
        Checks checks = new Checks();
        aTermIsT1200(checks);
        tInParenthesesIsT1200(checks);
        termsOfACompoundAreT999(checks);
        termsOfAListAreT999(checks);
        aListHasOneTailAtMost(checks);
        xIsLessAndYIsNOrLess(checks);
        theSidesOfEachOperator(checks);
        thereAreNoOtherOperators(checks);
        leftGoesFirstAmongTheSame(checks);
        aPrefixTakesItsOwnNOrLess(checks);
        aPrefixOfAHigherNCanNotStandThere(checks);
        minusRightBeforeAnIntegerIsAnInteger(checks);
        anOperatorThatCanNotBeOneIsAnAtom(checks);
        aPrefixBeforeAnOpOfTwoSidesIsNone(checks);
        aPrefixBeforeAClosingSignOrEndIsNone(checks);
        aPrefixBeforeAParenthesisOrAPrefixIsOne(checks);
        aNameInQuotesIsAsOneWithout(checks);
        aCommaInQuotesIsNoOperator(checks);
        bracesStandNowhere(checks);
        _isAlwaysAnother(checks);
        checks.finish();
    }

    private static String spaced(String left, String operator, String right) {
        return left + " " + operator + " " + right;
    }

    /** TERM: T(1200). */
    private static void aTermIsT1200(Checks checks) {
        for (Infix infix : INFIXES) {
            boolean isExpression = infix.n <= 500;
            checks.dueValue(spaced("a", infix.text, "b") + ".", "error 2");
            checks.dueValue(spaced("X", infix.text, "b") + ".", isExpression ? "error 1" : "error 2");
        }
    }

    /** T in ( ) is T(1200), and what stands in ( ) may stand everywhere. */
    private static void tInParenthesesIsT1200(Checks checks) {
        for (Infix infix : INFIXES) {
            String inside = "(" + spaced("a", infix.text, "b") + ")";
            checks.dueValue(inside + ".", "error 2");
            checks.dueValue("- " + inside + ".", "error 2");
            checks.dueValue("f(" + inside + ").", "error 2");
            checks.dueValue("[" + inside + "|" + inside + "].", "error 2");
            for (Infix outside : INFIXES) {
                checks.dueValue(spaced(inside, outside.text, inside) + ".", "error 2");
            }
        }
        checks.dueValue("2*(3+4).", "14");
        checks.dueValue("(2*3)+4.", "10");
    }

    /** TERMS of a COMPOUND are T(999): 900 is taken, 1000 is the comma between them, 1050 and more is refused. */
    private static void termsOfACompoundAreT999(Checks checks) {
        for (Infix infix : INFIXES) {
            boolean isTaken = infix.n <= 1000;
            checks.dueValue("f(" + spaced("a", infix.text, "b") + ").", isTaken ? "error 2" : "broken 4");
            checks.dueValue("f(1," + spaced("a", infix.text, "b") + ").", isTaken ? "error 2" : "broken 6");
        }
        checks.dueValue("f(\\+ a).", "error 2");
        checks.dueValue("abs(1,2).", "error 2");
        checks.dueValue("abs((1,2)).", "error 2");
        checks.dueValue("min(1,2).", "1");
        checks.dueValue("min((1,2)).", "error 2");
        checks.dueValue("min((1),(2)).", "1");
    }

    /** TERMS of [ ] are T(999). */
    private static void termsOfAListAreT999(Checks checks) {
        for (Infix infix : INFIXES) {
            String inside = spaced("a", infix.text, "b");
            boolean isTaken = infix.n <= 1000;
            checks.dueValue("[" + inside + "].", isTaken ? "error 2" : "broken 3");
            checks.dueValue("[1," + inside + "].", isTaken ? "error 2" : "broken 5");
            checks.dueValue("[1|" + inside + "].", infix.n <= 999 ? "error 2" : "broken 5");
        }
        checks.dueValue("[\\+ a|\\+ b].", "error 2");
    }

    /** These: [T {, T} [| T]]. */
    private static void aListHasOneTailAtMost(Checks checks) {
        checks.dueValue("[1].", "error 2");
        checks.dueValue("[1|2].", "error 2");
        checks.dueValue("[1,2|3].", "error 2");
        checks.dueValue("[1|2|3].", "broken 4");
        checks.dueValue("[1|2,3].", "broken 4");
        checks.dueValue("[|1].", "broken 1");
        checks.dueValue("[1|].", "broken 3");
        checks.dueValue("[1,|2].", "broken 3");
        checks.dueValue("[1,].", "broken 3");
        checks.dueValue("[,].", "broken 1");
        checks.dueValue("[1,,2].", "broken 3");
        checks.dueValue("[1.", "broken 2");
        checks.dueValue("(1|2).", "broken 2");
        checks.dueValue("f(1|2).", "broken 3");
        checks.dueValue("1|2.", "broken 1");
    }

    /** x: what stands there has a lesser n, y: n or less. */
    private static void xIsLessAndYIsNOrLess(Checks checks) {
        checks.dueValue("a :- b :- c.", "broken 7");
        checks.dueValue("a ; b ; c.", "error 2");
        checks.dueValue("a -> b -> c.", "error 2");
        checks.dueValue("a , b , c.", "error 2");
        checks.dueValue("a = b = c.", "broken 6");
        checks.dueValue("9 - 4 - 3.", "2");
        checks.dueValue("9 - (4 - 3).", "8");
        checks.dueValue("100 // 10 // 5.", "2");
        checks.dueValue("100 // (10 // 5).", "50");
        checks.dueHolds(new ValueReckoner(), "1 < 2 < 3.", "broken 6");
        checks.dueHolds(new ValueReckoner(), "1 < (2 < 3).", "error 2");
        checks.dueLet(new ValueReckoner(), "X is Y is 3.", "broken 7");
        checks.dueLet(new ValueReckoner(), "X is (Y is 3).", "error 2");
    }

    /** Behind `a op1 b` an op2 takes b, or all of `a op1 b`, or can't stand there. */
    private static void theSidesOfEachOperator(Checks checks) {
        for (Infix first : INFIXES) {
            for (Infix second : INFIXES) {
                String before = spaced("a", first.text, "b") + " ";
                boolean isTaken = second.n <= first.right || first.n <= second.left;
                checks.dueValue(before + second.text + " c.", isTaken ? "error 2" : "broken " + before.length());
            }
        }
    }

    private static void thereAreNoOtherOperators(Checks checks) {
        for (String name : NO_OPERATORS) {
            checks.dueValue(spaced("1", name, "2") + ".", "broken 2");
        }
        checks.dueValue("1 \\+ 2.", "broken 2");
        for (String name : new String[] {"+", "*", "//", "mod", "rem", "abs", "min", "max", "f", "=", "is"}) {
            checks.dueValue(name + " 1.", "broken " + (name.length() + 1));
        }
        checks.dueValue(":- a.", "broken 3");
        checks.dueValue("1 + .", "broken 4");
    }

    /** yfx: of two that are alike the left one goes first; - of one goes before all. */
    private static void leftGoesFirstAmongTheSame(Checks checks) {
        String[] sums = {"+", "-", "*", "//", "mod", "rem"};
        for (int first = 0; first < sums.length; first++) {
            for (int second = 0; second < sums.length; second++) {
                boolean isLeftFirst = first > 1 || second <= 1;
                long want = isLeftFirst ? worked(sums[second], worked(sums[first], 17, 5), 3)
                    : worked(sums[first], 17, worked(sums[second], 5, 3));
                checks.dueValue("17 " + sums[first] + " 5 " + sums[second] + " 3.", Long.toString(want));
            }
        }
        checks.dueValue("17 mod 5 * 3.", "6");
        checks.dueValue("17 * 5 mod 3.", "1");
        checks.dueValue("17 // 5 rem 2.", "1");
        checks.dueValue("17 rem 5 // 2.", "1");
        checks.dueValue("10 - 2 + 3.", "11");
        checks.dueValue("10 + 2 - 3 - 4.", "5");
        checks.dueValue("- 7 mod 3.", "2");
        checks.dueValue("- (7 mod 3).", "-1");
        checks.dueValue("- 7 // 2.", "-3");
        checks.dueValue("- 1 + 5.", "4");
    }

    private static long worked(String operator, long a, long b) {
        switch (operator) {
            case "+": return a + b;
            case "-": return a - b;
            case "*": return a * b;
            case "//": return a / b;
            default: return a % b;
        }
    }

    /** A PREFIX p and T (its own n or less): \+ takes up to 900, - up to 200. */
    private static void aPrefixTakesItsOwnNOrLess(Checks checks) {
        for (Infix infix : INFIXES) {
            String right = infix.right >= 900 ? "\\+ b" : "b";
            checks.dueValue("\\+ " + spaced("a", infix.text, right) + ".", "error 2");
        }
        checks.dueValue("\\+ \\+ a.", "error 2");
        checks.dueValue("- - 5.", "5");
        checks.dueValue("- - - 5.", "-5");
        checks.dueValue("\\+ - a.", "error 2");
        checks.dueValue("f(\\+ a = b).", "error 2");
        checks.dueValue("f(\\+ a ; b).", "broken 7");
        checks.dueValue("- 5 - 3.", "-8");
        checks.dueValue("- 5 * 3 = a.", "error 2");
        checks.dueHolds(new ValueReckoner(), "\\+ 1 < 2.", "broken 0");
        checks.dueHolds(new ValueReckoner(), "- 1 < 2.", "true");
    }

    /** T op T of less than 900 has no place for \+ : it is an ATOM there, and the sign behind it can't stand. */
    private static void aPrefixOfAHigherNCanNotStandThere(Checks checks) {
        for (Infix infix : INFIXES) {
            String before = spaced("a", infix.text, "\\+ ");
            checks.dueValue(before + "b.", infix.right >= 900 ? "error 2" : "broken " + before.length());
            checks.dueValue(before + ".", "error 2");
        }
        checks.dueValue("- \\+ a.", "broken 5");
        checks.dueValue("- \\+ .", "error 2");
        checks.dueValue("- \\+(a).", "error 2");
        checks.dueLet(new ValueReckoner(), "X is \\+ 1.", "broken 8");
        checks.dueLet(new ValueReckoner(), "X is (\\+ 1).", "error 2");
    }

    /** - INTEGER (right behind one another: an INTEGER below 0): it is one SYMBOL and no T more. */
    private static void minusRightBeforeAnIntegerIsAnInteger(Checks checks) {
        checks.dueValue("-5.", "-5");
        checks.dueValue("3 -5.", "-2");
        checks.dueValue("3-5.", "-2");
        checks.dueValue("3 - -5.", "8");
        checks.dueValue("-5-5.", "-10");
        checks.dueValue("- -5.", "5");
        checks.dueValue("-%\n5.", "-5");
        checks.dueValue("-5(1).", "broken 2");
        checks.dueValue("- ".repeat(99) + "-5.", "5");
        checks.dueValue("- ".repeat(99) + "- 5.", "broken 200");
        checks.dueValue("f([1" + ",1".repeat(498) + "|-5]).", "error 2");
        checks.dueValue("f([1" + ",1".repeat(498) + "|- 5]).", "broken 0");
        checks.dueValue("+5.", "broken 1");
        checks.dueValue("-X.", "error 1");
    }

    /** A NAME that is an OPERATOR and stands where it can't be one is an ATOM (with n 0). */
    private static void anOperatorThatCanNotBeOneIsAnAtom(Checks checks) {
        for (Infix infix : INFIXES) {
            if (infix.text.equals(",")) {
                continue;
            }
            checks.dueValue(infix.text + " .", "error 2");
            checks.dueValue("f(" + infix.text + ").", "error 2");
            checks.dueValue("[" + infix.text + "|" + infix.text + "].", "error 2");
            checks.dueValue("(" + infix.text + ").", "error 2");
            checks.dueValue(infix.text + " * " + infix.text + " .", "error 2");
            checks.dueValue("- (" + infix.text + ").", "error 2");
            checks.dueValue(infix.text + " a.", infix.text.equals("-") ? "error 2" : "broken " + (infix.text.length() + 1));
            checks.dueValue(infix.text + "(1,2,3).", "error 2");
        }
        checks.dueValue(", .", "broken 0");
        checks.dueValue("f(,).", "broken 2");
        checks.dueValue("\\+ .", "error 2");
        checks.dueValue("\\+ * \\+ .", "error 2");
        checks.dueValue("- * - .", "error 2");
        checks.dueLet(new ValueReckoner(), "X is is.", "error 2");
        checks.dueHolds(new ValueReckoner(), "< < < .", "error 2");
        checks.dueHolds(new ValueReckoner(), "< < X.", "error 2");
        checks.dueHolds(new ValueReckoner(), "X < < .", "error 1");
    }

    /** Not an op of two sides (also with a ( right behind it). */
    private static void aPrefixBeforeAnOpOfTwoSidesIsNone(Checks checks) {
        for (Infix infix : INFIXES) {
            if (infix.text.equals("-") || infix.text.equals(",")) {
                continue;
            }
            int length = infix.text.length();
            checks.dueValue("- " + infix.text + " a.", "error 2");
            checks.dueValue("\\+ " + infix.text + " a.", "error 2");
            checks.dueValue("- " + infix.text + " .", "broken " + (3 + length));
            checks.dueValue("- " + infix.text + "(7,4).", "error 2");
            checks.dueValue("- " + infix.text + "(7,4) a.", "broken " + (8 + length));
            checks.dueValue("- " + infix.text + "(7 :- 4).", "error 2");
            checks.dueValue("- " + infix.text + "().", "broken " + (3 + length));
        }
        checks.dueValue("- mod(7,4).", "error 2");
        checks.dueValue("-(mod(7,4)).", "-3");
        checks.dueValue("- (mod(7,4)).", "-3");
        checks.dueHolds(new ValueReckoner(), "- < 3.", "error 2");
    }

    /** ) ] } , | or END. */
    private static void aPrefixBeforeAClosingSignOrEndIsNone(Checks checks) {
        for (String prefix : new String[] {"- ", "\\+ "}) {
            int length = prefix.length();
            checks.dueValue("(" + prefix + ").", "error 2");
            checks.dueValue("f(" + prefix + ").", "error 2");
            checks.dueValue("[" + prefix + "].", "error 2");
            checks.dueValue("[" + prefix + "|" + prefix + "].", "error 2");
            checks.dueValue(prefix + ", a.", "error 2");
            checks.dueValue("f(" + prefix + ", a).", "error 2");
            checks.dueValue(prefix + ".", "error 2");
            checks.dueValue(prefix + "}.", "broken " + length);
            checks.dueValue(prefix + ").", "broken " + length);
            checks.dueValue(prefix + "].", "broken " + length);
            checks.dueValue(prefix + "| a.", "broken " + length);
            checks.dueValue(prefix, "broken " + length);
        }
        checks.dueValue("(" + "(".repeat(98) + "- )" + ")".repeat(98) + ".", "error 2");
        checks.dueValue("(" + "(".repeat(98) + "- a)" + ")".repeat(98) + ".", "broken 101");
    }

    /** Unless that is ( or a PREFIX. */
    private static void aPrefixBeforeAParenthesisOrAPrefixIsOne(Checks checks) {
        checks.dueValue("- (5).", "-5");
        checks.dueValue("- ( 5 ) + 7.", "2");
        checks.dueValue("- - 5.", "5");
        checks.dueValue("- -(5).", "5");
        checks.dueValue("- -(5,7).", "2");
        checks.dueValue("- - .", "error 2");
        checks.dueValue("- - a b.", "broken 6");
        checks.dueValue("- - = a.", "error 2");
        checks.dueValue("- \\+ = a.", "error 2");
        checks.dueValue("\\+ (a :- b).", "error 2");
        checks.dueValue("\\+ - .", "error 2");
        checks.dueValue("- [1].", "error 2");
        checks.dueValue("- 'a'.", "error 2");
        checks.dueValue("- abs(-5).", "-5");
        checks.dueValue("- min(3,4).", "-3");
        checks.dueValue("- max(3,4).", "-4");
        checks.dueValue("- X.", "error 1");
        checks.dueValue("- ! .", "error 2");
    }

    /** A NAME in ' ' is in all as one without. */
    private static void aNameInQuotesIsAsOneWithout(Checks checks) {
        for (Infix infix : INFIXES) {
            if (!infix.text.equals(",")) {
                checks.dueValue("8 '" + infix.text + "' a.", "error 2");
                checks.dueValue("X '" + infix.text + "'a.", infix.n <= 500 ? "error 1" : "error 2");
                checks.dueValue("a '" + infix.text + "' b c.", "broken " + (7 + infix.text.length()));
            }
        }
        checks.dueValue("7 'mod' 4.", "3");
        checks.dueValue("7'mod'4.", "3");
        checks.dueValue("'mod'(7,4).", "3");
        checks.dueValue("'-' 5.", "-5");
        checks.dueValue("'-'(5).", "-5");
        checks.dueValue("'-'5.", "-5");
        checks.dueValue("'\\+' a.", "error 2");
        checks.dueValue("'abs'(-3)+'min'(1,2)+'max'(1,2).", "6");
        checks.dueLet(new ValueReckoner(), "X 'is' 5.", "1");
        checks.dueLet(new ValueReckoner(), "'X' is 5.", "broken 0");
        checks.dueHolds(new ValueReckoner(), "1 '<' 5.", "true");
        checks.dueHolds(new ValueReckoner(), "1 '=\\=' 1.", "false");
        checks.dueValue("- 'mod'(7,4).", "error 2");
        checks.dueValue("'7'.", "error 2");
    }

    /** (',' is no OPERATOR). */
    private static void aCommaInQuotesIsNoOperator(Checks checks) {
        checks.dueValue("a , b.", "error 2");
        checks.dueValue("a ',' b.", "broken 2");
        checks.dueValue("f(1 ',' 2).", "broken 4");
        checks.dueValue("[1 ',' 2].", "broken 3");
        checks.dueValue("',' .", "error 2");
        checks.dueValue("','(1,2).", "error 2");
        checks.dueValue("f(',').", "error 2");
        checks.dueValue("- ',' .", "error 2");
        checks.dueValue("- ','(1,2) .", "error 2");
        checks.dueValue("- ',' a.", "broken 6");
    }

    /** { } stand nowhere. */
    private static void bracesStandNowhere(Checks checks) {
        for (String brace : new String[] {"{", "}", "{}", "{a}"}) {
            checks.dueValue(brace + ".", "broken 0");
            checks.dueValue("1 " + brace + ".", "broken 2");
            checks.dueValue("1+" + brace + ".", "broken 2");
            checks.dueValue("- " + brace + ".", "broken 2");
            checks.dueValue("-" + brace + ".", "broken 1");
            checks.dueValue("f(" + brace + ").", "broken 2");
            checks.dueValue("f(1" + brace + ").", "broken 3");
            checks.dueValue("f" + brace + ".", "broken 1");
            checks.dueValue("[" + brace + "].", "broken 1");
            checks.dueValue("(" + brace + ").", "broken 1");
            checks.dueValue("1. " + brace, "broken 3");
        }
        checks.dueValue("'{}'.", "error 2");
        checks.dueValue("'{'(1).", "error 2");
        checks.dueValue("1 % {}\n.", "1");
    }

    /** The same VARIABLE within one TERM that is read is the same, but _ is always another. */
    private static void _isAlwaysAnother(Checks checks) {
        ValueReckoner x = new ValueReckoner();
        checks.dueLet(x, "X is 7.", "1");
        checks.dueValue(x, "X*X+X.", "56");
        checks.dueHolds(x, "X =:= X.", "true");
        checks.dueHolds(x, "_ =:= _.", "error 1");
        checks.dueLet(x, "__ is 5.", "2");
        checks.dueValue(x, "__-__.", "0");
        checks.dueValue(x, "_-_.", "error 1");
    }
}

/** E and the ERRORS in their order: for each sentence the last that is still worked out and the first that is not. */
public final class BoundsOfErrorsTest {
    private static final String GREATEST = "9007199254740991";
    private static final String TOO_GREAT = "(" + GREATEST + "+1)";
    private static final String[] OF_TWO = {"+", "-", "*", "//", "mod", "rem", "min", "max"};

    public static void main(String[] args) {
        Checks checks = new Checks();
        aVariableIsAnEIfItHasAValue(checks);
        _hasNoValue(checks);
        quotientsGoTowards0(checks);
        modIsOfTheSignOfTheSecond(checks);
        remIsOfTheSignOfTheFirst(checks);
        minusOfOneAndOfTwo(checks);
        absMinMax(checks);
        theNumberOfTermsMakesAnE(checks);
        error1IsAVariableWithoutAValue(checks);
        error2IsElseSomethingThatIsNoE(checks);
        error3IsBy0(checks);
        error4IsAboveTheGreatest(checks);
        productsDoNotWrapAround(checks);
        leftErrorsComeFirst(checks);
        errorsOfTheSidesComeBeforeWhatIsDone(checks);
        whatIsNoEHidesErrorsInIt(checks);
        checks.finish();
    }

    private static String of(String name, String first, String second) {
        return name + "(" + first + "," + second + ")";
    }

    /** A VARIABLE that has a value (by its name). */
    private static void aVariableIsAnEIfItHasAValue(Checks checks) {
        ValueReckoner x = new ValueReckoner();
        checks.dueValue(x, "X.", "error 1");
        checks.dueLet(x, "X is 0.", "1");
        checks.dueValue(x, "X.", "0");
        checks.dueValue(x, "x.", "error 2");
        checks.dueValue(x, "X1.", "error 1");
        checks.dueValue(x, "_X.", "error 1");
        checks.dueLet(x, "Xy is -" + GREATEST + ".", "2");
        checks.dueValue(x, "Xy.", "-" + GREATEST);
        checks.dueValue(x, "XY.", "error 1");
        checks.dueValue(x, "X.", "0");
    }

    /** _ has none. */
    private static void _hasNoValue(Checks checks) {
        ValueReckoner x = new ValueReckoner();
        checks.dueLet(x, "_ is 5.", "broken 0");
        checks.dueValue(x, "_.", "error 1");
        checks.dueLet(x, "__ is 5.", "1");
        checks.dueLet(x, "_0 is 6.", "2");
        checks.dueValue(x, "_.", "error 1");
        checks.dueValue(x, "__+_0.", "11");
        checks.dueLet(x, "X is _.", "error 1");
        checks.dueHolds(x, "_ < 1.", "error 1");
    }

    /** // (towards 0). */
    private static void quotientsGoTowards0(Checks checks) {
        checks.dueValue("7 // 2.", "3");
        checks.dueValue("-7 // 2.", "-3");
        checks.dueValue("7 // -2.", "-3");
        checks.dueValue("-7 // -2.", "3");
        checks.dueValue("1 // 2.", "0");
        checks.dueValue("-1 // 2.", "0");
        checks.dueValue("6 // -2.", "-3");
        checks.dueValue("0 // -2.", "0");
        checks.dueValue(GREATEST + " // 1.", GREATEST);
        checks.dueValue(GREATEST + " // -1.", "-" + GREATEST);
        checks.dueValue("-" + GREATEST + " // -1.", GREATEST);
        checks.dueValue("-" + GREATEST + " // " + GREATEST + ".", "-1");
        checks.dueValue("9007199254740990 // " + GREATEST + ".", "0");
    }

    /** mod (rounded down: of the sign of the second). */
    private static void modIsOfTheSignOfTheSecond(Checks checks) {
        checks.dueValue("7 mod 3.", "1");
        checks.dueValue("-7 mod 3.", "2");
        checks.dueValue("7 mod -3.", "-2");
        checks.dueValue("-7 mod -3.", "-1");
        checks.dueValue("6 mod 3.", "0");
        checks.dueValue("-6 mod 3.", "0");
        checks.dueValue("6 mod -3.", "0");
        checks.dueValue("0 mod -3.", "0");
        checks.dueValue("-1 mod " + GREATEST + ".", "9007199254740990");
        checks.dueValue("1 mod -" + GREATEST + ".", "-9007199254740990");
        checks.dueValue("5 mod -1.", "0");
    }

    /** rem (of the first). */
    private static void remIsOfTheSignOfTheFirst(Checks checks) {
        checks.dueValue("7 rem 3.", "1");
        checks.dueValue("-7 rem 3.", "-1");
        checks.dueValue("7 rem -3.", "1");
        checks.dueValue("-7 rem -3.", "-1");
        checks.dueValue("-6 rem 3.", "0");
        checks.dueValue("0 rem -3.", "0");
        checks.dueValue("-1 rem " + GREATEST + ".", "-1");
        checks.dueValue("-" + GREATEST + " rem 9007199254740990.", "-1");
        checks.dueValue("5 rem -1.", "0");
    }

    /** - of two; - of one. */
    private static void minusOfOneAndOfTwo(Checks checks) {
        checks.dueValue("-(5).", "-5");
        checks.dueValue("- 5.", "-5");
        checks.dueValue("-(-5).", "5");
        checks.dueValue("-(0).", "0");
        checks.dueValue("-(-" + GREATEST + ").", GREATEST);
        checks.dueValue("-(5,7).", "-2");
        checks.dueValue("-(5,7,9).", "error 2");
        checks.dueValue("- .", "error 2");
    }

    /** abs(E) min(E, F) max(E, F). */
    private static void absMinMax(Checks checks) {
        checks.dueValue("abs(0).", "0");
        checks.dueValue("abs(-1).", "1");
        checks.dueValue("abs(1).", "1");
        checks.dueValue("abs(-" + GREATEST + ").", GREATEST);
        checks.dueValue("min(-1,1).", "-1");
        checks.dueValue("min(1,-1).", "-1");
        checks.dueValue("min(1,1).", "1");
        checks.dueValue("max(-1,1).", "1");
        checks.dueValue("max(1,-1).", "1");
        checks.dueValue("max(1,1).", "1");
        checks.dueValue("min(-" + GREATEST + "," + GREATEST + ").", "-" + GREATEST);
        checks.dueValue("max(-" + GREATEST + "," + GREATEST + ").", GREATEST);
    }

    /** An E of one TERM less or more is none. */
    private static void theNumberOfTermsMakesAnE(Checks checks) {
        for (String name : OF_TWO) {
            boolean isOfOneToo = name.equals("-");
            checks.dueValue(name + "(6).", isOfOneToo ? "-6" : "error 2");
            checks.dueValue(name + "(6,6,6).", "error 2");
            checks.dueValue(name + " .", "error 2");
            checks.dueValue(of(name, "X", "6") + ".", "error 1");
            checks.dueValue(name + "(X).", isOfOneToo ? "error 1" : "error 2");
            checks.dueValue(name + "(X,X,X).", "error 2");
        }
        checks.dueValue("abs(6,6).", "error 2");
        checks.dueValue("abs(X,X).", "error 2");
        checks.dueValue("abs .", "error 2");
        checks.dueValue("\\+(6).", "error 2");
        checks.dueValue("=(6,6).", "error 2");
        checks.dueValue("/(6,6).", "error 2");
        checks.dueValue("^(6,6).", "error 2");
        checks.dueValue("sign(6).", "error 2");
        checks.dueValue("abss(6).", "error 2");
        checks.dueValue("ab(6).", "error 2");
    }

    /** 1 a VARIABLE without a value. */
    private static void error1IsAVariableWithoutAValue(Checks checks) {
        checks.dueValue("X.", "error 1");
        checks.dueValue("(X).", "error 1");
        checks.dueValue("- X.", "error 1");
        checks.dueValue("abs(X).", "error 1");
        for (String name : OF_TWO) {
            checks.dueValue(of(name, "X", "1") + ".", "error 1");
            checks.dueValue(of(name, "1", "X") + ".", "error 1");
        }
    }

    /** 2 else something that is no E. */
    private static void error2IsElseSomethingThatIsNoE(Checks checks) {
        String[] none = {"a", "[]", "[1]", "[X]", "f(1)", "f(X)", "(1,2)", "(X:-Y)", "(X=1)", "(X<1)", "(X is 1)", "!", "''",
            "'1'", "(\\+ 1)", "abs", "mod(1)", "min(1)"};
        for (String one : none) {
            checks.dueValue(one + ".", "error 2");
            checks.dueValue("abs(" + one + ").", "error 2");
            for (String name : OF_TWO) {
                checks.dueValue(of(name, one, "1") + ".", "error 2");
                checks.dueValue(of(name, "1", one) + ".", "error 2");
            }
            checks.dueLet(new ValueReckoner(), "X is " + one + ".", "error 2");
            checks.dueHolds(new ValueReckoner(), one + " < 1.", "error 2");
            checks.dueHolds(new ValueReckoner(), "1 < " + one + ".", "error 2");
        }
    }

    /** 3 by 0. */
    private static void error3IsBy0(Checks checks) {
        for (String name : new String[] {"//", "mod", "rem"}) {
            checks.dueValue("5 " + name + " 1.", name.equals("//") ? "5" : "0");
            checks.dueValue("5 " + name + " -1.", name.equals("//") ? "-5" : "0");
            checks.dueValue("5 " + name + " 0.", "error 3");
            checks.dueValue("5 " + name + " -0.", "error 3");
            checks.dueValue("0 " + name + " 0.", "error 3");
            checks.dueValue("5 " + name + " (1-1).", "error 3");
            checks.dueValue("0 " + name + " 5.", "0");
            checks.dueLet(new ValueReckoner(), "X is 5 " + name + " 0.", "error 3");
            checks.dueHolds(new ValueReckoner(), "5 " + name + " 0 < 0.", "error 3");
        }
        checks.dueValue("5 * 0.", "0");
        checks.dueValue("min(5,0).", "0");
    }

    /** 4 a value above 2^53 - 1 in size. */
    private static void error4IsAboveTheGreatest(Checks checks) {
        checks.dueValue("9007199254740990 + 1.", GREATEST);
        checks.dueValue(GREATEST + " + 0.", GREATEST);
        checks.dueValue(GREATEST + " + 1.", "error 4");
        checks.dueValue("1 + " + GREATEST + ".", "error 4");
        checks.dueValue("-9007199254740990 - 1.", "-" + GREATEST);
        checks.dueValue("-" + GREATEST + " - 1.", "error 4");
        checks.dueValue("-1 + -" + GREATEST + ".", "error 4");
        checks.dueValue("-1 - " + GREATEST + ".", "error 4");
        checks.dueValue("0 - " + GREATEST + ".", "-" + GREATEST);
        checks.dueValue(GREATEST + " - -1.", "error 4");
        checks.dueValue(GREATEST + " + " + GREATEST + ".", "error 4");
        checks.dueValue(GREATEST + " + 1 - 1.", "error 4");
        checks.dueValue("0 * " + TOO_GREAT + ".", "error 4");
        checks.dueValue("min(0," + TOO_GREAT + ").", "error 4");
        checks.dueLet(new ValueReckoner(), "X is " + GREATEST + "+1.", "error 4");
        checks.dueHolds(new ValueReckoner(), GREATEST + "+1 > 0.", "error 4");
        checks.dueHolds(new ValueReckoner(), GREATEST + " > 0.", "true");
    }

    /** A product may be above 2^64, too, and would then look small. */
    private static void productsDoNotWrapAround(Checks checks) {
        checks.dueValue("94906265 * 94906265.", "9007199136250225");
        checks.dueValue("94906266 * 94906266.", "error 4");
        checks.dueValue("-94906265 * 94906265.", "-9007199136250225");
        checks.dueValue("94906266 * -94906266.", "error 4");
        checks.dueValue("6361 * 1416003655831.", GREATEST);
        checks.dueValue("-6361 * 1416003655831.", "-" + GREATEST);
        checks.dueValue("2 * 4503599627370495.", "9007199254740990");
        checks.dueValue("2 * 4503599627370496.", "error 4");
        checks.dueValue("-2 * 4503599627370496.", "error 4");
        checks.dueValue("4294967296 * 4294967296.", "error 4");
        checks.dueValue("4294967296 * -4294967296.", "error 4");
        checks.dueValue("8589934592 * 4294967296.", "error 4");
        checks.dueValue("4294967296 * 2147483648.", "error 4");
        checks.dueValue(GREATEST + " * " + GREATEST + ".", "error 4");
        checks.dueValue(GREATEST + " * -" + GREATEST + ".", "error 4");
        checks.dueValue(GREATEST + " * 2049.", "error 4");
        checks.dueValue(GREATEST + " * 1.", GREATEST);
        checks.dueValue("-1 * " + GREATEST + ".", "-" + GREATEST);
        checks.dueValue("0 * " + GREATEST + ".", "0");
        checks.dueValue(GREATEST + " * 0.", "0");
    }

    private static final String[] FAULTY = {"X", "a", "(1//0)", TOO_GREAT};

    /** ERRORS (of the left E first, then of the right one). */
    private static void leftErrorsComeFirst(Checks checks) {
        for (int left = 1; left <= FAULTY.length; left++) {
            for (int right = 1; right <= FAULTY.length; right++) {
                for (String name : OF_TWO) {
                    checks.dueValue(of(name, FAULTY[left - 1], FAULTY[right - 1]) + ".", "error " + left);
                }
                String sides = FAULTY[left - 1] + " =< " + FAULTY[right - 1] + ".";
                checks.dueHolds(new ValueReckoner(), sides, "error " + left);
            }
            checks.dueHolds(new ValueReckoner(), "1 =< " + FAULTY[left - 1] + ".", "error " + left);
            checks.dueHolds(new ValueReckoner(), FAULTY[left - 1] + " =< 1.", "error " + left);
        }
        checks.dueValue("1+(2*(3-X))+a.", "error 1");
        checks.dueValue("1+(2*(3-a))+X.", "error 2");
        checks.dueValue("(X+a)*(a+X).", "error 1");
        checks.dueValue("(1+a)*X.", "error 2");
    }

    /** Then of what is done with both. */
    private static void errorsOfTheSidesComeBeforeWhatIsDone(Checks checks) {
        for (String name : new String[] {"//", "mod", "rem"}) {
            for (int left = 1; left <= FAULTY.length; left++) {
                checks.dueValue(FAULTY[left - 1] + " " + name + " 0.", "error " + left);
            }
        }
        checks.dueValue("(" + GREATEST + "+1)//0.", "error 4");
        checks.dueValue(GREATEST + "+1//0.", "error 3");
        checks.dueValue(GREATEST + "*2+X.", "error 4");
        checks.dueValue("X+" + GREATEST + "*2.", "error 1");
        checks.dueValue("abs(1//0).", "error 3");
        checks.dueValue("-(" + GREATEST + "+1).", "error 4");
    }

    /** What is no E is not worked out: nothing in it counts. */
    private static void whatIsNoEHidesErrorsInIt(Checks checks) {
        for (String inside : FAULTY) {
            checks.dueValue("f(" + inside + ").", "error 2");
            checks.dueValue("[" + inside + "].", "error 2");
            checks.dueValue("(" + inside + " = 1).", "error 2");
            checks.dueValue("(" + inside + " < 1).", "error 2");
            checks.dueValue("+(" + inside + ").", "error 2");
            checks.dueValue("abs(" + inside + ",1).", "error 2");
            checks.dueValue("f(" + inside + ")+X.", "error 2");
        }
    }
}

/** Promise 4, and what an E and its ERRORS are. */
public final class ValueTest {
    private static final String GREATEST = "9007199254740991";

    public static void main(String[] args) {
        Checks checks = new Checks();
        sums(checks);
        divisions(checks);
        functions(checks);
        sizes(checks);
        errorsInOrder(checks);
        noExpressions(checks);
        moreBehindEnd(checks);
        checks.finish();
    }

    private static void sums(Checks checks) {
        checks.dueValue("7.", "7");
        checks.dueValue("-7.", "-7");
        checks.dueValue("-0.", "0");
        checks.dueValue("007.", "7");
        checks.dueValue("1+2*3.", "7");
        checks.dueValue("(1+2)*3.", "9");
        checks.dueValue("1-2-3.", "-4");
        checks.dueValue("1-(2-3).", "2");
        checks.dueValue("1 -2.", "-1");
        checks.dueValue("1 - -2.", "3");
        checks.dueValue("- 3.", "-3");
        checks.dueValue("- - 3.", "3");
        checks.dueValue("- -3.", "3");
        checks.dueValue("-(-(3)).", "3");
        checks.dueValue("- (3) + 5.", "2");
        checks.dueValue("-(3,5).", "-2");
        checks.dueValue("+(1,2).", "3");
        checks.dueValue("*(2,3).", "6");
        checks.dueValue("0 * -5.", "0");
        checks.dueValue("'+'(1,2).", "3");
        checks.dueValue("1 '+' 2.", "3");
        checks.dueValue("7 'mod' 4.", "3");
        checks.dueValue("'-'3.", "-3");
        checks.dueValue("2*(3).", "6");
    }

    private static void divisions(Checks checks) {
        checks.dueValue("7//2.", "3");
        checks.dueValue("-7//2.", "-3");
        checks.dueValue("7// -2.", "-3");
        checks.dueValue("-7// -2.", "3");
        checks.dueValue("7 mod 3.", "1");
        checks.dueValue("-7 mod 3.", "2");
        checks.dueValue("7 mod -3.", "-2");
        checks.dueValue("-7 mod -3.", "-1");
        checks.dueValue("6 mod -3.", "0");
        checks.dueValue("7 rem 3.", "1");
        checks.dueValue("-7 rem 3.", "-1");
        checks.dueValue("7 rem -3.", "1");
        checks.dueValue("-7 rem -3.", "-1");
        checks.dueValue("mod(7,4).", "3");
        checks.dueValue("1 - mod(7,4).", "-2");
        checks.dueValue("7 mod(4).", "3");
        checks.dueValue("1//0.", "error 3");
        checks.dueValue("0 mod 0.", "error 3");
        checks.dueValue("1 rem (2-2).", "error 3");
        checks.dueValue("0//5.", "0");
    }

    private static void functions(Checks checks) {
        checks.dueValue("abs(-5).", "5");
        checks.dueValue("abs(5).", "5");
        checks.dueValue("abs(-" + GREATEST + ").", GREATEST);
        checks.dueValue("min(2,3).", "2");
        checks.dueValue("min(3,-2).", "-2");
        checks.dueValue("max(2,3).", "3");
        checks.dueValue("max(-3,-2).", "-2");
        checks.dueValue("'max'(1,2)+ 'abs'(-1).", "3");
        checks.dueValue("abs(1,2).", "error 2");
        checks.dueValue("abs.", "error 2");
        checks.dueValue("min(1).", "error 2");
        checks.dueValue("min(1,2,3).", "error 2");
        checks.dueValue("max(1).", "error 2");
    }

    private static void sizes(Checks checks) {
        checks.dueValue(GREATEST + ".", GREATEST);
        checks.dueValue("-" + GREATEST + ".", "-" + GREATEST);
        checks.dueValue("- " + GREATEST + ".", "-" + GREATEST);
        checks.dueValue("9007199254740992.", "broken 0");
        checks.dueValue("-9007199254740992.", "broken 1");
        checks.dueValue("1+99999999999999999999999999999999.", "broken 2");
        checks.dueValue("1+18446744073709551617.", "broken 2");
        checks.dueValue("00000000000000000000000000009.", "9");
        checks.dueValue("9007199254740990+1.", GREATEST);
        checks.dueValue(GREATEST + "+1.", "error 4");
        checks.dueValue("-" + GREATEST + "-1.", "error 4");
        checks.dueValue("-" + GREATEST + "+ -1.", "error 4");
        checks.dueValue(GREATEST + "*" + GREATEST + ".", "error 4");
        checks.dueValue(GREATEST + "* -1.", "-" + GREATEST);
        checks.dueValue("4294967296*4294967296.", "error 4");
        checks.dueValue("94906267*94906267.", "error 4");
        checks.dueValue("94906265*94906265.", "9007199136250225");
        checks.dueValue("94906266* -94906266.", "error 4");
        checks.dueValue("6361*1416003655831.", "9007199254740991");
        checks.dueValue("4503599627370496*2.", "error 4");
        checks.dueValue("-2*4503599627370496.", "error 4");
        checks.dueValue("2*4503599627370495.", "9007199254740990");
        checks.dueValue("-" + GREATEST + "// -1.", GREATEST);
        checks.dueValue(GREATEST + "+1-1.", "error 4");
    }

    private static void errorsInOrder(Checks checks) {
        checks.dueValue("X.", "error 1");
        checks.dueValue("_.", "error 1");
        checks.dueValue("_X.", "error 1");
        checks.dueValue("a.", "error 2");
        checks.dueValue("X+a.", "error 1");
        checks.dueValue("a+X.", "error 2");
        checks.dueValue("1//0+X.", "error 3");
        checks.dueValue("X+1//0.", "error 1");
        checks.dueValue("a//0.", "error 2");
        checks.dueValue("X mod 0.", "error 1");
        checks.dueValue("(1//0)//0.", "error 3");
        checks.dueValue("(" + GREATEST + "+1)//0.", "error 4");
        checks.dueValue("(" + GREATEST + "+1)+(1//0).", "error 4");
        checks.dueValue("1//0+(" + GREATEST + "+1).", "error 3");
        checks.dueValue("1//(" + GREATEST + "+1).", "error 4");
        checks.dueValue("min(X,a).", "error 1");
        checks.dueValue("max(a,X).", "error 2");
        checks.dueValue("abs(X).", "error 1");
        checks.dueValue("-(a).", "error 2");
        checks.dueValue("- X.", "error 1");
        checks.dueValue("1+(2*(3-X)).", "error 1");
    }

    private static void noExpressions(Checks checks) {
        checks.dueValue("foo(1).", "error 2");
        checks.dueValue("foo(X).", "error 2");
        checks.dueValue("foo(1//0)+X.", "error 2");
        checks.dueValue("min(X).", "error 2");
        checks.dueValue("+(1).", "error 2");
        checks.dueValue("+(X).", "error 2");
        checks.dueValue("-(X,1,2).", "error 2");
        checks.dueValue("[1].", "error 2");
        checks.dueValue("[].", "error 2");
        checks.dueValue("[X|Y]+1.", "error 2");
        checks.dueValue("X is 1.", "error 2");
        checks.dueValue("X < 1.", "error 2");
        checks.dueValue("(X < 1)+1.", "error 2");
        checks.dueValue("(1,2).", "error 2");
        checks.dueValue("\\+ 1.", "error 2");
        checks.dueValue("X=1.", "error 2");
        checks.dueValue("a:-b.", "error 2");
        checks.dueValue("-.1.", "broken 2");
        checks.dueValue("(-).", "error 2");
        checks.dueValue("+ .", "error 2");
        checks.dueValue("'7'.", "error 2");
        checks.dueValue("mod.", "error 2");
        checks.dueValue("/(1,2).", "error 2");
        checks.dueValue("'m''od'(7,2).", "error 2");
        checks.dueValue("''(1,2).", "error 2");
        checks.dueValue("','(1,2).", "error 2");
    }

    private static void moreBehindEnd(Checks checks) {
        checks.dueValue("1. 2.", "broken 3");
        checks.dueValue("1. % and no more", "1");
        checks.dueValue("1.% and no more\n \t\r", "1");
        checks.dueValue("1. % and more\n  .", "broken 16");
        checks.dueValue("1. .", "broken 3");
        checks.dueValue("1. \"", "broken 3");
        checks.dueValue("1. 'a", "broken 3");
        checks.dueValue("X. )", "broken 3");
    }
}

/** Where what is read is broken: for each sentence the last text that is whole, the first that is broken, and PLACE. */
public final class BoundsOfPlacesTest {
    public static void main(String[] args) {
        Checks checks = new Checks();
        placesCountFrom0(checks);
        theFirstSignThatCanNotStandThereIsTold(checks);
        atTheEndItIsTheLength(checks);
        anIntegerTooGreatIsThere(checks);
        aQuoteThatIsNotClosedIsThere(checks);
        the9thTermIsThere(checks);
        hundredTermsMayBeOpen(checks);
        eachKindOfOpenTermCounts(checks);
        whatHasEndedDoesNotCount(checks);
        thousandSymbolsMayStandThere(checks);
        eachKindOfSymbolCountsOnce(checks);
        parenthesesAreNoSymbols(checks);
        tooManySymbolsAreToldAtTheFirstSign(checks);
        tooManySymbolsAreToldIfNothingElseIsBroken(checks);
        tooManySymbolsComeBeforeErrors(checks);
        aBrokenTextLeavesNothingForTheNext(checks);
        checks.finish();
    }

    /** A sum of that many SYMBOLS, an odd number. */
    private static String sum(int symbols) {
        return "0" + "+1".repeat((symbols - 1) / 2);
    }

    private static String nested(String open, String inside, String close, int count) {
        return open.repeat(count) + inside + close.repeat(count) + ".";
    }

    /** PLACE (from 0). */
    private static void placesCountFrom0(Checks checks) {
        checks.dueValue(")", "broken 0");
        checks.dueValue(" )", "broken 1");
        checks.dueValue("1)", "broken 1");
        checks.dueValue("%\n)", "broken 2");
        checks.dueValue(" ".repeat(4095) + ")", "broken 4095");
        checks.dueValue("abc def.", "broken 4");
        checks.dueValue("abc   'def'.", "broken 6");
    }

    /** At the PLACE of the first sign that can't stand there: later ones do not matter, errors neither. */
    private static void theFirstSignThatCanNotStandThereIsTold(Checks checks) {
        checks.dueValue("1 2 3.", "broken 2");
        checks.dueValue("1 2 9007199254740992.", "broken 2");
        checks.dueValue("1 2 'a", "broken 2");
        checks.dueValue("1 2 \u0000", "broken 2");
        checks.dueValue("9007199254740992 ) 'a", "broken 0");
        checks.dueValue("f(1,2 3,4,5,6,7,8,9,10).", "broken 6");
        checks.dueValue("1 ) " + "(".repeat(200), "broken 2");
        checks.dueValue("X + a // 0 )", "broken 11");
        checks.dueValue("1//0", "broken 4");
        checks.dueValue("1 a X.", "broken 2");
        checks.dueLet(new ValueReckoner(), "3 is 4 5.", "broken 7");
        checks.dueHolds(new ValueReckoner(), "f(1)) < 2.", "broken 4");
    }

    /** Its length at the end. */
    private static void atTheEndItIsTheLength(Checks checks) {
        checks.dueValue("", "broken 0");
        checks.dueValue(" ", "broken 1");
        checks.dueValue("1", "broken 1");
        checks.dueValue("1 ", "broken 2");
        checks.dueValue("1%x", "broken 3");
        checks.dueValue("1+", "broken 2");
        checks.dueValue("1+ \n", "broken 4");
        checks.dueValue("(1", "broken 2");
        checks.dueValue("f(", "broken 2");
        checks.dueValue("f(1,", "broken 4");
        checks.dueValue("[1", "broken 2");
        checks.dueValue("[1|", "broken 3");
        checks.dueValue("-", "broken 1");
        checks.dueValue("f(1,2,3,4,5,6,7,8,", "broken 18");
        checks.dueValue("(".repeat(100), "broken 100");
        checks.dueLet(new ValueReckoner(), "X is 5", "broken 6");
        checks.dueHolds(new ValueReckoner(), "1 < 5 ", "broken 6");
    }

    /** An INTEGER too great: there. */
    private static void anIntegerTooGreatIsThere(Checks checks) {
        checks.dueValue("1+ 9007199254740991.", "error 4");
        checks.dueValue("1+ 9007199254740992.", "broken 3");
        checks.dueValue("f(a, 9007199254740992).", "broken 5");
        checks.dueValue("[1|9007199254740992].", "broken 3");
        checks.dueValue("1 -9007199254740992.", "broken 3");
        checks.dueValue("* -9007199254740992.", "broken 3");
        checks.dueValue("1. 9007199254740992", "broken 3");
        checks.dueValue("1 9007199254740992", "broken 2");
    }

    /** A ' that is not closed: there, at the first of its signs. */
    private static void aQuoteThatIsNotClosedIsThere(Checks checks) {
        checks.dueValue("1+ 'abc'.", "error 2");
        checks.dueValue("1+ 'abc.", "broken 3");
        checks.dueValue("f('a','b).", "broken 6");
        checks.dueValue("'a' = 'b''.", "broken 6");
        checks.dueValue("- 'a", "broken 2");
        checks.dueValue("1. 'a", "broken 3");
        checks.dueValue("a 'b", "broken 2");
        checks.dueValue("1%'\n.", "1");
    }

    /** More than 8 TERMS: at the 9th. */
    private static void the9thTermIsThere(Checks checks) {
        checks.dueValue("f(a,a,a,a,a,a,a,a).", "error 2");
        checks.dueValue("f(a,a,a,a,a,a,a,a,b).", "broken 18");
        checks.dueValue("f(a,a,a,a,a,a,a,a, %x\n b).", "broken 23");
        checks.dueValue("f(a,a,a,a,a,a,a,a,b,c,d,e,f,g).", "broken 18");
        checks.dueValue("f(a,a,a,a,a,a,a,a,- b).", "broken 18");
        checks.dueValue("f(a,a,a,a,a,a,a,a,).", "broken 18");
        checks.dueValue("f(a,a,a,a,a,a,a,a b).", "broken 18");
        checks.dueValue("f(a,g(b,b,b,b,b,b,b,b,c),a).", "broken 22");
        checks.dueLet(new ValueReckoner(), "X is f(1,1,1,1,1,1,1,1,1).", "broken 23");
        checks.dueHolds(new ValueReckoner(), "f(1,1,1,1,1,1,1,1,1) < 2.", "broken 18");
    }

    /** More than 100 T(n) begun and not ended at a time: at the first sign of one more. */
    private static void hundredTermsMayBeOpen(Checks checks) {
        checks.dueValue(nested("(", "7", ")", 98), "7");
        checks.dueValue(nested("(", "7", ")", 99), "7");
        checks.dueValue(nested("(", "7", ")", 100), "broken 100");
        checks.dueValue(nested("(", "7", ")", 101), "broken 100");
        checks.dueValue(nested("( ", "7", ")", 100), "broken 200");
        checks.dueValue("(".repeat(100) + " %x\n 7" + ")".repeat(100) + ".", "broken 105");
        checks.dueValue("(".repeat(2000), "broken 100");
        ValueReckoner x = new ValueReckoner();
        checks.dueLet(x, "X is " + nested("(", "7", ")", 98), "1");
        checks.dueLet(x, "X is " + nested("(", "8", ")", 99), "broken 104");
        checks.dueValue(x, "X.", "7");
        checks.dueHolds(x, nested("(", "X", ")", 99).replace(".", "<8."), "true");
        checks.dueHolds(x, "8 > " + nested("(", "X", ")", 98), "true");
        checks.dueHolds(x, "8 > " + nested("(", "X", ")", 99), "broken 103");
    }

    /** T in ( ), of a PREFIX, right of an op, of a COMPOUND, of [ ] and behind its | . */
    private static void eachKindOfOpenTermCounts(Checks checks) {
        checks.dueValue("- ".repeat(99) + "7.", "-7");
        checks.dueValue("- ".repeat(100) + "7.", "broken 200");
        checks.dueValue("\\+ ".repeat(99) + "7.", "error 2");
        checks.dueValue("\\+ ".repeat(100) + "7.", "broken 300");
        checks.dueValue(nested("abs(", "-7", ")", 99), "7");
        checks.dueValue(nested("abs(", "-7", ")", 100), "broken 400");
        checks.dueValue(nested("min(9,", "7", ")", 99), "7");
        checks.dueValue(nested("min(9,", "7", ")", 100), "broken 598");
        checks.dueValue(nested("[", "7", "]", 99), "error 2");
        checks.dueValue(nested("[", "7", "]", 100), "broken 100");
        checks.dueValue(nested("[7,", "7", "]", 99), "error 2");
        checks.dueValue(nested("[7|", "7", "]", 99), "error 2");
        checks.dueValue(nested("[7|", "7", "]", 100), "broken 298");
        for (String op : new String[] {",", ";", "->"}) {
            checks.dueValue(("a" + op).repeat(99) + "a.", "error 2");
            checks.dueValue(("a" + op).repeat(100) + "a.", "broken " + 100 * (1 + op.length()));
        }
        checks.dueValue(nested("1+(", "7", ")", 49), "56");
        checks.dueValue(nested("1+(", "7", ")", 49).replace("7", "7+1"), "57");
        checks.dueValue(nested("1+(", "7", ")", 49).replace("7", "7+1*2"), "broken 151");
        checks.dueValue(nested("1+(", "7", ")", 50), "broken 150");
    }

    /** Not ended at a time: left sides, TERMS before the last one and what stands in closed ( ) have ended. */
    private static void whatHasEndedDoesNotCount(Checks checks) {
        checks.dueValue("0" + "+1".repeat(400) + ".", "400");
        checks.dueValue("0" + "+(1)".repeat(300) + ".", "300");
        checks.dueValue("0" + "+ - 1".repeat(300) + ".", "-300");
        checks.dueValue("[1" + ",- 1".repeat(200) + "].", "error 2");
        checks.dueValue("min(" + "(".repeat(98) + "7" + ")".repeat(98) + "," + "(".repeat(98) + "6" + ")".repeat(98) + ").",
            "6");
        checks.dueValue("(".repeat(99) + "7" + ")".repeat(99) + "+" + "(".repeat(98) + "6" + ")".repeat(98) + ".", "13");
        checks.dueValue("(".repeat(99) + "7" + ")".repeat(99) + "+" + "(".repeat(99) + "6" + ")".repeat(99) + ".",
            "broken 299");
        checks.dueValue("(".repeat(98) + "1*2+3" + ")".repeat(98) + ".", "5");
        checks.dueValue("(".repeat(98) + "1+2*3" + ")".repeat(98) + ".", "broken 102");
    }

    /** A TERM of more than 1000 SYMBOLS. */
    private static void thousandSymbolsMayStandThere(Checks checks) {
        checks.dueValue(sum(999) + ".", "499");
        checks.dueValue("- 0" + "+1".repeat(499) + ".", "499");
        checks.dueValue(sum(1001) + ".", "broken 0");
        checks.dueValue("abs(" + sum(999) + ").", "499");
        checks.dueValue("abs(abs(" + sum(999) + ")).", "broken 0");
        ValueReckoner x = new ValueReckoner();
        checks.dueLet(x, "X is - " + sum(997) + ".", "1");
        checks.dueLet(x, "X is " + sum(999) + ".", "broken 0");
        checks.dueLet(x, "X is - - " + sum(997) + ".", "broken 0");
        checks.dueValue(x, "X.", "498");
        checks.dueHolds(x, "- X < " + sum(997) + ".", "true");
        checks.dueHolds(x, "- - X < " + sum(997) + ".", "broken 0");
        checks.dueHolds(x, "X =:= - " + sum(997) + ".", "true");
        checks.dueHolds(x, "X =:= " + sum(999) + ".", "broken 0");
    }

    /** Each VARIABLE, INTEGER, ATOM and NAME of a COMPOUND, as often as it stands there. */
    private static void eachKindOfSymbolCountsOnce(Checks checks) {
        for (String one : new String[] {"X", "_", "1", "-1", "a", "'a b'", "[]", "!", "+", "- "}) {
            checks.dueValue("f([1" + ",1".repeat(498) + "|" + one + "]).", "error 2");
            checks.dueValue("f(f([1" + ",1".repeat(498) + "|" + one + "])).", "broken 0");
            checks.dueValue("f([" + one + ("," + one).repeat(498) + "]).", "error 2");
            checks.dueValue("f([" + one + ("," + one).repeat(498) + "],2).", "broken 0");
        }
        for (String two : new String[] {"f(1)", "- 1", "-(1)", "\\+ 1", "'f'(X)", "[](1)", "- - "}) {
            checks.dueValue("[1" + ",1".repeat(498) + "|" + two + "].", "error 2");
            checks.dueValue("f([1" + ",1".repeat(498) + "|" + two + "]).", "broken 0");
        }
        for (String three : new String[] {"f(1,2)", "1-2", "1 mod 2", "(a,b)", "(a:-b)", "(a;b)", "X=Y", "[1]", "[1|2]"}) {
            checks.dueValue("f([1" + ",1".repeat(497) + "|" + three + "]).", "error 2");
            checks.dueValue("f(f([1" + ",1".repeat(497) + "|" + three + "])).", "broken 0");
        }
        checks.dueValue("[1" + ",1".repeat(497) + "|f(1,2,3)].", "error 2");
        checks.dueValue("f([1" + ",1".repeat(497) + "|f(1,2,3)]).", "broken 0");
    }

    private static void parenthesesAreNoSymbols(Checks checks) {
        checks.dueValue("- (((" + sum(999) + "))).", "-499");
        checks.dueValue("- ((" + sum(999) + ") - 1).", "broken 0");
        checks.dueValue("abs(0" + "+(1)".repeat(499) + ").", "499");
    }

    /** At its first sign. */
    private static void tooManySymbolsAreToldAtTheFirstSign(Checks checks) {
        checks.dueValue(" " + sum(1001) + ".", "broken 1");
        checks.dueValue(" %x\n\t" + sum(1001) + ".", "broken 5");
        checks.dueValue("  (" + sum(1001) + ").", "broken 2");
        checks.dueValue("  - " + sum(1001) + ". % end", "broken 2");
        checks.dueLet(new ValueReckoner(), "   X is " + sum(1001) + ".", "broken 3");
        checks.dueHolds(new ValueReckoner(), "   1 < " + sum(1001) + ".", "broken 3");
        checks.dueValue("1" + "-1".repeat(2040) + ".", "broken 0");
    }

    /** If nothing else is broken. */
    private static void tooManySymbolsAreToldIfNothingElseIsBroken(Checks checks) {
        String many = " " + sum(1001);
        checks.dueValue(many + ".", "broken 1");
        checks.dueValue(many, "broken " + many.length());
        checks.dueValue(many + ")", "broken " + many.length());
        checks.dueValue(many + " 'a", "broken " + (many.length() + 1));
        checks.dueValue(many + ". 1", "broken " + (many.length() + 2));
        checks.dueValue(many + ". .", "broken " + (many.length() + 2));
        checks.dueValue(many + "+9007199254740992.", "broken " + (many.length() + 1));
        checks.dueValue("-(" + many + ",2,3,4,5,6,7,8,9).", "broken " + (many.length() + 17));
    }

    /** It is broken, so there is neither an ERROR nor something else. */
    private static void tooManySymbolsComeBeforeErrors(Checks checks) {
        checks.dueValue(" X" + "+1".repeat(499) + ".", "error 1");
        checks.dueValue(" X" + "+1".repeat(500) + ".", "broken 1");
        checks.dueLet(new ValueReckoner(), " a" + "+1".repeat(499) + ".", "broken 0");
        checks.dueLet(new ValueReckoner(), " a" + "+1".repeat(500) + ".", "broken 1");
        checks.dueHolds(new ValueReckoner(), " 1//0" + "+1".repeat(499) + ".", "broken 1");
    }

    /** Open terms and symbols are counted anew for each text. */
    private static void aBrokenTextLeavesNothingForTheNext(Checks checks) {
        ValueReckoner x = new ValueReckoner();
        for (int i = 0; i < 3; i++) {
            checks.dueValue(x, "(".repeat(101), "broken 100");
            checks.dueValue(x, nested("(", "7", ")", 99), "7");
            checks.dueValue(x, "f(1,1,1,1,1,1,1,1,1", "broken 18");
            checks.dueValue(x, "f(1,1,1,1,1,1,1,1).", "error 2");
            checks.dueValue(x, "'a", "broken 0");
            checks.dueValue(x, "[1|", "broken 3");
            checks.dueValue(x, "7.", "7");
        }
        checks.dueValue(x, sum(1001) + ".", "broken 0");
        checks.dueValue(x, sum(999) + ".", "499");
        checks.dueValue(x, sum(999) + ".", "499");
    }
}

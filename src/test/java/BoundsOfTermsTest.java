/** TERMS and THE TAPE: for each sentence the last that is still taken and the first that is refused. */
public final class BoundsOfTermsTest {
    private static final String GREATEST = "9007199254740991";

    public static void main(String[] args) {
        Checks checks = new Checks();
        integersAreAtMost2To53Less1(checks);
        integersFarTooGreatDoNotWrapAround(checks);
        integersBelow0AreAsGreatInSize(checks);
        compoundsHaveAtLeast1Term(checks);
        compoundsHaveAtMost8Terms(checks);
        aListHasAsManyElementsAsStandThere(checks);
        theEmptyListIsAnAtom(checks);
        aListIsTheCompoundPoint(checks);
        tapeHasAtMost4096Bytes(checks);
        aWholeTapeIsOneName(checks);
        checks.finish();
    }

    /** INTEGERS, at most 2^53 - 1 in size. */
    private static void integersAreAtMost2To53Less1(Checks checks) {
        checks.dueValue("9007199254740990.", "9007199254740990");
        checks.dueValue(GREATEST + ".", GREATEST);
        checks.dueValue("9007199254740992.", "broken 0");
        checks.dueValue("  9007199254740993.", "broken 2");
        checks.dueValue("9999999999999999.", "broken 0");
        checks.dueValue("10000000000000000.", "broken 0");
        checks.dueValue("0.", "0");
        ValueReckoner x = new ValueReckoner();
        checks.dueLet(x, "X is " + GREATEST + ".", "1");
        checks.dueLet(x, "X is 9007199254740992.", "broken 5");
        checks.dueValue(x, "X.", GREATEST);
        checks.dueHolds(x, "X < 9007199254740992.", "broken 4");
        checks.dueHolds(x, "X =:= " + GREATEST + ".", "true");
    }

    /** Of 20 and more digits, too: these would be small numbers again if they went round at 2^64. */
    private static void integersFarTooGreatDoNotWrapAround(Checks checks) {
        checks.dueValue("1+9223372036854775807.", "broken 2");
        checks.dueValue("1+9223372036854775808.", "broken 2");
        checks.dueValue("1+18446744073709551616.", "broken 2");
        checks.dueValue("1+18446744073709551617.", "broken 2");
        checks.dueValue("1+340282366920938463463374607431768211457.", "broken 2");
        checks.dueValue("1+1" + "0".repeat(4000) + ".", "broken 2");
        checks.dueValue("1+" + "0".repeat(4000) + "1.", "2");
        checks.dueValue("0" + GREATEST + ".", GREATEST);
        checks.dueValue("09007199254740992.", "broken 0");
    }

    private static void integersBelow0AreAsGreatInSize(Checks checks) {
        checks.dueValue("-" + GREATEST + ".", "-" + GREATEST);
        checks.dueValue("-9007199254740992.", "broken 1");
        checks.dueValue("- 9007199254740992.", "broken 2");
        checks.dueValue("-(9007199254740992).", "broken 2");
        checks.dueValue("-0.", "0");
        checks.dueHolds(new ValueReckoner(), "-0 =:= 0.", "true");
    }

    /** COMPOUNDS, a NAME with 1 to 8 TERMS: none. */
    private static void compoundsHaveAtLeast1Term(Checks checks) {
        checks.dueValue("f(1).", "error 2");
        checks.dueValue("f().", "broken 2");
        checks.dueValue("abs( ).", "broken 5");
        checks.dueValue("-().", "broken 2");
        checks.dueValue("[]().", "broken 3");
        checks.dueLet(new ValueReckoner(), "X is f().", "broken 7");
    }

    /** COMPOUNDS, a NAME with 1 to 8 TERMS: eight, and one more. */
    private static void compoundsHaveAtMost8Terms(Checks checks) {
        String eight = "1,2,3,4,5,6,7,8";
        checks.dueValue("f(" + eight + ").", "error 2");
        checks.dueValue("f(" + eight + ",9).", "broken 18");
        checks.dueValue("f(" + eight + " ,  9).", "broken 21");
        checks.dueValue("'f'(" + eight + ",9,10).", "broken 20");
        checks.dueValue("f(" + eight + ",(9)).", "broken 18");
        checks.dueValue("f(" + eight + ",[]).", "broken 18");
        checks.dueValue("min(" + eight + ").", "error 2");
        checks.dueValue("min(" + eight + ",9).", "broken 20");
        checks.dueValue("+(" + eight + ",9).", "broken 18");
        checks.dueValue("f(" + eight + ") + f(" + eight + ").", "error 2");
        checks.dueValue("f(f(" + eight + "),2,3,4,5,6,7,8).", "error 2");
        checks.dueValue("f(f(" + eight + "),2,3,4,5,6,7,8,9).", "broken 35");
        checks.dueValue("f((" + eight + ",9),2,3,4,5,6,7,8).", "error 2");
        checks.dueLet(new ValueReckoner(), "X is max(" + eight + ",9).", "broken 25");
    }

    private static void aListHasAsManyElementsAsStandThere(Checks checks) {
        checks.dueValue("[1,2,3,4,5,6,7,8].", "error 2");
        checks.dueValue("[1,2,3,4,5,6,7,8,9].", "error 2");
        checks.dueValue("[1,2,3,4,5,6,7,8,9|10].", "error 2");
        checks.dueValue("f([1,2,3,4,5,6,7,8,9],2,3,4,5,6,7,8).", "error 2");
    }

    /** [] is an ATOM: it needs no TERM inside, and is one SYMBOL. */
    private static void theEmptyListIsAnAtom(Checks checks) {
        checks.dueValue("[].", "error 2");
        checks.dueValue("[] + X.", "error 2");
        checks.dueValue("'[]'.", "error 2");
        checks.dueValue("[[]].", "error 2");
        checks.dueValue("[](1).", "error 2");
        checks.dueValue("f([]" + ",[]".repeat(7) + ").", "error 2");
        checks.dueValue("[[]" + ",[]".repeat(498) + "].", "error 2");
        checks.dueValue("[[]" + ",[]".repeat(499) + "].", "broken 0");
    }

    /** [H|T] the COMPOUND '.' of H and T: one SYMBOL more than H and T have, at each element. */
    private static void aListIsTheCompoundPoint(Checks checks) {
        checks.dueValue("'.'(1,[]).", "error 2");
        checks.dueValue("[1|2].", "error 2");
        String elements = "1" + ",1".repeat(497);
        checks.dueValue("f([" + elements + "|[]],2,3).", "error 2");
        checks.dueValue("f([" + elements + "],2,3).", "error 2");
        checks.dueValue("f([" + elements + "],2,3,4).", "broken 0");
        checks.dueValue("f([" + elements + "|[]],2,3,4).", "broken 0");
        checks.dueValue("f([" + elements + "|a(b)],2,3).", "broken 0");
    }

    /** THE TAPE has at most 4096 bytes. */
    private static void tapeHasAtMost4096Bytes(Checks checks) {
        ValueReckoner x = new ValueReckoner();
        Checks.load(x, " ".repeat(4093) + "42.");
        checks.due("count(0) of a full tape", x.count(0), 4096);
        checks.due("value of a full tape", x.value(), 42L);
        checks.dueValue(" ".repeat(4095) + "4", "broken 4096");
        checks.dueValue(" ".repeat(4096), "broken 4096");
        checks.dueValue("%" + "x".repeat(4095), "broken 4096");
        checks.dueValue("1.%" + "x".repeat(4093), "1");
        checks.dueValue("1. " + " ".repeat(4092) + "2", "broken 4095");
        checks.dueValue("'" + "x".repeat(4095), "broken 0");
    }

    private static void aWholeTapeIsOneName(Checks checks) {
        checks.dueValue("x".repeat(4095) + ".", "error 2");
        checks.dueValue("X".repeat(4095) + ".", "error 1");
        checks.dueValue("'" + "x".repeat(4093) + "'.", "error 2");
        checks.dueValue("+".repeat(4094) + " .", "error 2");
        checks.dueValue("+".repeat(4095) + ".", "broken 4096");
        ValueReckoner x = new ValueReckoner();
        checks.dueLet(x, "V".repeat(4089) + " is 7.", "1");
        checks.dueValue(x, "V".repeat(4089) + ".", "7");
    }
}

/** Promise 5. */
public final class LetTest {
    public static void main(String[] args) {
        Checks checks = new Checks();
        valuesStay(checks);
        namesAreWhole(checks);
        somethingElse(checks);
        broken(checks);
        errors(checks);
        atMostFifty(checks);
        checks.finish();
    }

    private static void valuesStay(Checks checks) {
        ValueReckoner x = new ValueReckoner();
        checks.dueLet(x, "X is 5.", "1");
        checks.dueLet(x, "Y is X*X+1.", "2");
        checks.due("X+Y", Checks.value(x, "X+Y."), "31");
        checks.dueLet(x, "X is X+1.", "2");
        checks.due("X", Checks.value(x, "X."), "6");
        checks.due("Y", Checks.value(x, "Y."), "26");
        checks.dueLet(x, "X is -X.", "2");
        checks.due("X", Checks.value(x, "X."), "-6");
        checks.dueLet(x, "is(Z,3).", "3");
        checks.dueLet(x, "(Z) 'is' (Z+1).", "3");
        checks.dueLet(x, "(W is Z).", "4");
        checks.due("W", Checks.value(x, "W."), "4");
        checks.dueLet(x, "V is 9007199254740991.", "5");
        checks.due("-V", Checks.value(x, "- V."), "-9007199254740991");
        checks.due("V+1", Checks.value(x, "V+1."), "error 4");
    }

    private static void namesAreWhole(Checks checks) {
        ValueReckoner x = new ValueReckoner();
        checks.dueLet(x, "Ab is 1.", "1");
        checks.dueLet(x, "A is 2.", "2");
        checks.dueLet(x, "Abc is 3.", "3");
        checks.dueLet(x, "AB is 4.", "4");
        checks.dueLet(x, "_ab is 5.", "5");
        checks.dueLet(x, "__ is 6.", "6");
        checks.dueLet(x, "_1 is 7.", "7");
        checks.due("all", Checks.value(x, "Ab+10*A+100*Abc+1000*AB+10000*_ab+100000*__+1000000*_1."), "7654321");
        checks.due("Ac", Checks.value(x, "Ac."), "error 1");
        checks.due("_", Checks.value(x, "_."), "error 1");
        String longName = "X" + "y".repeat(1000);
        checks.dueLet(x, longName + "1 is 8.", "8");
        checks.dueLet(x, longName + "2 is 9.", "9");
        checks.due("a long name", Checks.value(x, longName + "1."), "8");
        checks.due("a long name", Checks.value(x, longName + "2."), "9");
        checks.due("a long name without a value", Checks.value(x, longName + "."), "error 1");
    }

    private static void somethingElse(Checks checks) {
        ValueReckoner x = new ValueReckoner();
        checks.dueLet(x, "X is 5.", "1");
        String[] texts = {"  _ is 5.", "  5.", "  X.", "  a is 5.", "  5 is 5.", "  X = 5.", "  X is 5, Y is 6.",
            "  X+1 is 5.", "  -X is 5.", "  - X is 5.", "  abs(Z) is 5.", "  -Z is 5.", "  f(X) is 5.", "  [X] is 5.",
            "  is(X).", "  is(X,5,6).", "  is.", "  [X is 5].", "  f(X is 5).", "  X < 5.", "  _ is 1//0.",
            "  a is Z.", "  'X' is 5.", "  Z+_ is 5.", "  - (X is 5).", "  (a:-X is 5)."};
        for (String text : texts) {
            checks.dueLet(x, text, "broken 0");
        }
        checks.due("X as before", Checks.value(x, "X."), "5");
        checks.due("Z as before", Checks.value(x, "Z."), "error 1");
        checks.due("clear()", x.clear(), 1);
    }

    private static void broken(Checks checks) {
        ValueReckoner x = new ValueReckoner();
        checks.dueLet(x, "", "broken 0");
        checks.dueLet(x, "X is .", "broken 5");
        checks.dueLet(x, "X is 5", "broken 6");
        checks.dueLet(x, "X is 5 is 6.", "broken 7");
        checks.dueLet(x, "X is 5. Y is 6.", "broken 8");
        checks.dueLet(x, "is is is is.", "broken 9");
        checks.dueLet(x, "X is \\+ 5.", "broken 8");
        checks.dueLet(x, "X is a b.", "broken 7");
        checks.due("clear()", x.clear(), 0);
    }

    private static void errors(Checks checks) {
        ValueReckoner x = new ValueReckoner();
        checks.dueLet(x, "X is X.", "error 1");
        checks.dueLet(x, "X is a.", "error 2");
        checks.dueLet(x, "X is Y is 5.", "broken 7");
        checks.dueLet(x, "X is (Y is 5).", "error 2");
        checks.dueLet(x, "X is [1].", "error 2");
        checks.dueLet(x, "X is 1//0.", "error 3");
        checks.dueLet(x, "X is 9007199254740991+1.", "error 4");
        checks.due("clear()", x.clear(), 0);
        checks.dueLet(x, "X is 5.", "1");
        checks.dueLet(x, "X is 1 mod 0.", "error 3");
        checks.due("X as before", Checks.value(x, "X."), "5");
    }

    private static void atMostFifty(Checks checks) {
        ValueReckoner x = new ValueReckoner();
        for (int i = 1; i <= 50; i++) {
            checks.dueLet(x, "V" + i + " is " + i + ".", Integer.toString(i));
        }
        checks.dueLet(x, "V51 is 1.", "full");
        checks.due("V51", Checks.value(x, "V51."), "error 1");
        checks.dueLet(x, "V51 is 1//0.", "error 3");
        checks.dueLet(x, "_ is 1.", "broken 0");
        checks.dueLet(x, "V50 is V50+V1.", "50");
        checks.due("V50", Checks.value(x, "V50."), "51");
        checks.due("V49", Checks.value(x, "V49."), "49");
        checks.due("clear()", x.clear(), 50);
        checks.dueLet(x, "V51 is 1.", "1");
    }
}

/** Promise 6. */
public final class HoldsTest {
    private static final String[] OPERATORS = {"<", ">", "=<", ">=", "=:=", "=\\="};

    public static void main(String[] args) {
        Checks checks = new Checks();
        comparisons(checks);
        variables(checks);
        refused(checks);
        checks.finish();
    }

    private static boolean isDue(String operator, int a, int b) {
        switch (operator) {
            case "<": return a < b;
            case ">": return a > b;
            case "=<": return a <= b;
            case ">=": return a >= b;
            case "=:=": return a == b;
            default: return a != b;
        }
    }

    private static void comparisons(Checks checks) {
        for (String operator : OPERATORS) {
            for (int a = -1; a <= 1; a++) {
                for (int b = -1; b <= 1; b++) {
                    String want = Boolean.toString(isDue(operator, a, b));
                    checks.dueHolds(new ValueReckoner(), a + " " + operator + " " + b + ".", want);
                    checks.dueHolds(new ValueReckoner(), operator + "(" + a + "," + b + ").", want);
                }
            }
        }
        checks.dueHolds(new ValueReckoner(), "1+1=:=4//2.", "true");
        checks.dueHolds(new ValueReckoner(), "-9007199254740991<9007199254740991.", "true");
    }

    private static void variables(Checks checks) {
        ValueReckoner x = new ValueReckoner();
        checks.dueLet(x, "X is 3.", "1");
        checks.dueHolds(x, "X*X > X+X.", "true");
        checks.dueHolds(x, "X < X.", "false");
        checks.dueHolds(x, "X < Y.", "error 1");
    }

    private static void refused(Checks checks) {
        ValueReckoner x = new ValueReckoner();
        for (String text : new String[] {" 1.", " X is 1.", " 1 = 1.", " 1 == 1.", " 1 \\= 1.", " 1 \\== 1.", " <(1).",
            " <(1,2,3).", " <.", " 1<2,2<3.", " \\+ 1<2.", " [1<2].", " - (1<2).", " f(X)."}) {
            checks.dueHolds(x, text, text.equals(" <.") ? "broken 3" : "broken 0");
        }
        checks.dueHolds(x, "", "broken 0");
        checks.dueHolds(x, "1 < 2", "broken 5");
        checks.dueHolds(x, "1 < 2 < 3.", "broken 6");
        checks.dueHolds(x, "1 < .", "broken 4");
        checks.dueHolds(x, "1 <= 2.", "broken 2");
        checks.dueHolds(x, "1 < 2. 3", "broken 7");
        checks.dueHolds(x, "X < a.", "error 1");
        checks.dueHolds(x, "a < X.", "error 2");
        checks.dueHolds(x, "1 < a.", "error 2");
        checks.dueHolds(x, "1//0 < X.", "error 3");
        checks.dueHolds(x, "1 =:= 9007199254740991+1.", "error 4");
        checks.dueHolds(x, "(1<2) < 3.", "error 2");
    }
}

/** Promise 8. */
public final class CountTest {
    public static void main(String[] args) {
        Checks checks = new Checks();
        ValueReckoner x = new ValueReckoner();
        for (int what : new int[] {-1, 3, Integer.MIN_VALUE, Integer.MAX_VALUE}) {
            checks.due("count(" + what + ")", Checks.throwsIllegalArgument(() -> x.count(what)), true);
        }
        told(checks, x, 0, -1, 0);
        x.feed(0, 0, 0, 0, 0);
        told(checks, x, 20, -1, 0);
        x.end(7);
        told(checks, x, 7, -1, 0);
        x.end(0);
        Checks.value(x, "1 2.");
        told(checks, x, 0, 2, 0);
        Checks.value(x, "X.");
        told(checks, x, 0, -1, 1);
        Checks.holds(x, "a < b.");
        told(checks, x, 0, -1, 2);
        Checks.let(x, "X is 5 5.");
        told(checks, x, 0, 7, 0);
        Checks.let(x, "X is 1//0.");
        told(checks, x, 0, -1, 3);
        Checks.let(x, "_ is 1//0.");
        told(checks, x, 0, 0, 0);
        Checks.holds(x, "9007199254740991+1 < 0.");
        told(checks, x, 0, -1, 4);
        Checks.let(x, "X is 1.");
        told(checks, x, 0, -1, 0);
        Checks.holds(x, "X.");
        told(checks, x, 0, 0, 0);
        Checks.holds(x, "X < 1.");
        told(checks, x, 0, -1, 0);
        Checks.value(x, "(");
        told(checks, x, 0, 1, 0);
        Checks.value(x, "1.");
        told(checks, x, 0, -1, 0);
        checks.finish();
    }

    private static void told(Checks checks, ValueReckoner x, int bytes, int place, int error) {
        checks.due("count(0)", x.count(0), bytes);
        checks.due("count(1)", x.count(1), place);
        checks.due("count(2)", x.count(2), error);
    }
}

/** Promise 7. */
public final class ClearTest {
    public static void main(String[] args) {
        Checks checks = new Checks();
        ValueReckoner x = new ValueReckoner();
        checks.due("clear() of nothing", x.clear(), 0);
        checks.dueLet(x, "X is 1.", "1");
        checks.dueLet(x, "Y is 2.", "2");
        checks.dueLet(x, "X is 3.", "2");
        Checks.load(x, "X + 1.");
        checks.due("clear()", x.clear(), 2);
        checks.due("count(0) behind clear", x.count(0), 6);
        x.end(0);
        checks.due("X", Checks.value(x, "X."), "error 1");
        checks.due("clear() keeps what was told", x.clear(), 0);
        checks.due("count(2) behind clear", x.count(2), 1);
        checks.due("1 2", Checks.value(x, "1 2."), "broken 2");
        x.clear();
        checks.due("count(1) behind clear", x.count(1), 2);
        checks.dueLet(x, "Y is 4.", "1");
        checks.due("Y", Checks.value(x, "Y."), "4");
        checks.due("X", Checks.value(x, "X."), "error 1");
        checks.due("clear()", x.clear(), 1);
        checks.due("clear() again", x.clear(), 0);
        checks.finish();
    }
}

/** Promise 1. */
public final class NewObjectTest {
    public static void main(String[] args) {
        Checks checks = new Checks();
        ValueReckoner x = new ValueReckoner();
        checks.due("count(0)", x.count(0), 0);
        checks.due("count(1)", x.count(1), -1);
        checks.due("count(2)", x.count(2), 0);
        checks.due("clear()", x.clear(), 0);
        checks.due("value of an empty tape", Checks.value(x, ""), "broken 0");
        checks.due("value of X", Checks.value(x, "X."), "error 1");
        checks.dueLet(x, "X is 1.", "1");
        ValueReckoner other = new ValueReckoner();
        checks.due("value of X in another object", Checks.value(other, "X."), "error 1");
        checks.due("clear() of another object", other.clear(), 0);
        checks.finish();
    }
}

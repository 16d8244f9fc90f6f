/** Promise 3. */
public final class EndTest {
    public static void main(String[] args) {
        Checks checks = new Checks();
        ValueReckoner x = new ValueReckoner();
        checks.due("end(0) of an empty tape", x.end(0), 0);
        checks.due("end(1) of an empty tape", Checks.throwsIllegalArgument(() -> x.end(1)), true);
        x.feed(0x3132332E, 0, 0, 0, 0);
        checks.due("end(-1)", Checks.throwsIllegalArgument(() -> x.end(-1)), true);
        checks.due("end(21)", Checks.throwsIllegalArgument(() -> x.end(21)), true);
        checks.due("end(least)", Checks.throwsIllegalArgument(() -> x.end(Integer.MIN_VALUE)), true);
        checks.due("end(greatest)", Checks.throwsIllegalArgument(() -> x.end(Integer.MAX_VALUE)), true);
        checks.due("count(0) behind refused ends", x.count(0), 20);
        checks.due("end(20)", x.end(20), 20);
        checks.due("end(4)", x.end(4), 4);
        checks.due("end(5)", Checks.throwsIllegalArgument(() -> x.end(5)), true);
        checks.due("count(0)", x.count(0), 4);
        checks.due("value of the first 4 bytes", x.value(), 123L);
        x.feed(0x3132332E, 0, 0, 0, 0);
        x.end(2);
        checks.due("feed behind end", x.feed(0x2E202020, 0x20202020, 0x20202020, 0x20202020, 0x20202020), 22);
        checks.due("value of what was fed behind end", x.value(), 12L);
        checks.finish();
    }
}

/** Promise 2. */
public final class FeedTest {
    public static void main(String[] args) {
        Checks checks = new Checks();
        bytesComeHighestFirst(checks);
        tapeIsFullAt4096(checks);
        feedLeavesTheRest(checks);
        checks.finish();
    }

    private static void bytesComeHighestFirst(Checks checks) {
        ValueReckoner x = new ValueReckoner();
        checks.due("feed", x.feed(0x31323334, 0x2B202020, 0x20202020, 0x20202020, 0x20202035), 20);
        checks.due("feed", x.feed(0x2E202020, 0x20202020, 0x20202020, 0x20202020, 0x20202020), 40);
        checks.due("value of 1234+ 5.", x.value(), 1239L);
        x.feed(0x31323320, 0xFF202020, 0, 0, 0);
        checks.due("value of a byte above 127", broken(x), 4);
        x.feed(0x31808000, 0, 0, 0, 0);
        checks.due("value of a byte of 128", broken(x), 1);
    }

    private static int broken(ValueReckoner x) {
        try {
            x.value();
            return -2;
        } catch (UnsupportedOperationException e) {
            return x.count(1);
        }
    }

    private static void tapeIsFullAt4096(Checks checks) {
        ValueReckoner x = new ValueReckoner();
        for (int length = 20; length <= 4080; length += 20) {
            checks.due("feed", x.feed(0x20202020, 0x20202020, 0x20202020, 0x20202020, 0x20202020), length);
        }
        checks.due("feed beyond", Checks.throwsIndexOutOfBounds(() -> x.feed(0, 0, 0, 0, 0)), true);
        checks.due("count(0) then", x.count(0), 4080);
        x.end(4077);
        checks.due("feed of one byte too many", Checks.throwsIndexOutOfBounds(() -> x.feed(0, 0, 0, 0, 0)), true);
        checks.due("count(0) then", x.count(0), 4077);
        x.end(4076);
        checks.due("feed up to the last byte", x.feed(0x20202020, 0x20202020, 0x20202020, 0x20202020, 0x2020372E), 4096);
        checks.due("feed of a full tape", Checks.throwsIndexOutOfBounds(() -> x.feed(0, 0, 0, 0, 0)), true);
        checks.due("value of a full tape", x.value(), 7L);
        checks.due("count(0) then", x.count(0), 0);
        checks.due("feed after it", x.feed(0, 0, 0, 0, 0), 20);
    }

    private static void feedLeavesTheRest(Checks checks) {
        ValueReckoner x = new ValueReckoner();
        checks.due("value of 1 2.", Checks.value(x, "1 2."), "broken 2");
        x.feed(0, 0, 0, 0, 0);
        checks.due("count(1) behind feed", x.count(1), 2);
        x.end(0);
        checks.due("value of 1//0.", Checks.value(x, "1//0."), "error 3");
        x.feed(0, 0, 0, 0, 0);
        checks.due("count(2) behind feed", x.count(2), 3);
    }
}

/** What lasts: values from one call to all later ones, and an object up to its 512th call. */
public final class WholeLifeTest {
    private static final int BLANKS = 0x20202020;
    private static final int MOST_CALLS = 512;

    public static void main(String[] args) {
        Checks checks = new Checks();
        anObjectAnswersUpToItsLastCall(checks);
        aFullTapeIsReadAtTheLastCall(checks);
        aValueStaysBehindAllOtherCalls(checks);
        aTapeStaysUntilItIsRead(checks);
        checks.finish();
    }

    /** An object is used for at most 512 calls after it has been made. */
    private static void anObjectAnswersUpToItsLastCall(Checks checks) {
        ValueReckoner x = new ValueReckoner();
        int calls = 0;
        for (int i = 0; i < 102; i++) {
            // "X is 1." first, "X is X+X mod 1000." then.
            boolean isFirst = i == 0;
            x.feed(0x58206973, isFirst ? 0x20312E20 : 0x20582B58, isFirst ? BLANKS : 0x206D6F64, isFirst ? BLANKS : 0x20313030,
                isFirst ? BLANKS : 0x302E2020);
            x.end(isFirst ? 7 : 18);
            checks.due("let " + i, x.let(), 1);
            checks.due("count(1)", x.count(1), -1);
            checks.due("count(2)", x.count(2), 0);
            calls += 5;
        }
        checks.due("feed", x.feed(0x582E2020, BLANKS, BLANKS, BLANKS, BLANKS), 20);
        long due = 1;
        for (int i = 1; i < 102; i++) {
            due += due % 1000;
        }
        checks.due("the last call", x.value(), due);
        checks.due("calls", calls + 2, MOST_CALLS);
    }

    private static void aFullTapeIsReadAtTheLastCall(Checks checks) {
        ValueReckoner x = new ValueReckoner();
        int calls = 0;
        for (int length = 20; length <= 4080; length += 20) {
            checks.due("feed", x.feed(BLANKS, BLANKS, BLANKS, BLANKS, BLANKS), length);
            calls++;
        }
        for (; calls < MOST_CALLS - 3; calls++) {
            checks.due("clear()", x.clear(), 0);
        }
        checks.due("end", x.end(4076), 4076);
        checks.due("feed", x.feed(0x2D393030, 0x37313939, 0x32353437, 0x34303939, 0x312E2020), 4096);
        checks.due("the last call", x.value(), -9007199254740991L);
        checks.due("calls", calls + 3, MOST_CALLS);
    }

    /** Promise 5: it has that value from now on. */
    private static void aValueStaysBehindAllOtherCalls(Checks checks) {
        ValueReckoner x = new ValueReckoner();
        checks.dueLet(x, "X is 5.", "1");
        String[] others = {"7.", "1 2.", "a.", "Y.", "1//0.", "X.", "f(X).", "'X", "", "X is 6.", "X =:= 6."};
        for (String other : others) {
            Checks.value(x, other);
            checks.dueValue(x, "X.", "5");
            Checks.holds(x, other);
            checks.dueHolds(x, "X =:= 5.", "true");
        }
        x.feed(BLANKS, 0x58206973, 0x20362E20, BLANKS, BLANKS);
        x.end(3);
        checks.due("count(0)", x.count(0), 3);
        checks.due("end(4)", Checks.throwsIllegalArgument(() -> x.end(4)), true);
        checks.due("count(3)", Checks.throwsIllegalArgument(() -> x.count(3)), true);
        x.end(0);
        checks.dueLet(x, "Y is X+1.", "2");
        checks.dueLet(x, "Z is Z.", "error 1");
        checks.dueValue(x, "10*X+Y.", "56");
        checks.due("clear()", x.clear(), 2);
        checks.dueValue(x, "X.", "error 1");
    }

    /** Only feed and end change the bytes before they are read: clear, count and what is refused do not. */
    private static void aTapeStaysUntilItIsRead(Checks checks) {
        ValueReckoner x = new ValueReckoner();
        Checks.load(x, "6*7 % and no more than this.\n.");
        int length = x.count(0);
        x.clear();
        x.count(1);
        x.count(2);
        checks.due("end(length + 1)", Checks.throwsIllegalArgument(() -> x.end(length + 1)), true);
        checks.due("end(-1)", Checks.throwsIllegalArgument(() -> x.end(-1)), true);
        checks.due("count(-1)", Checks.throwsIllegalArgument(() -> x.count(-1)), true);
        checks.due("end(length)", x.end(length), length);
        checks.due("value", x.value(), 42L);
        checks.due("count(0)", x.count(0), 0);
    }
}

/** Promises 1 to 8, and what is thrown: for each sentence the last call that is taken, the first that is refused, and
 * what later calls show of the state behind it. */
public final class BoundsOfPromisesTest {
    private static final int BLANKS = 0x20202020;
    private static final String GREATEST = "9007199254740991";

    public static void main(String[] args) {
        Checks checks = new Checks();
        newObjectHasNoValues(checks);
        objectsHaveNothingInCommon(checks);
        feedBringsTheHighestByteFirst(checks);
        feedIsTakenUpTo4096(checks);
        aRefusedFeedChangesNothing(checks);
        endIsTakenFrom0ToTheLength(checks);
        aRefusedEndChangesNothing(checks);
        endKeepsTheFirstBytesAlone(checks);
        valueLeavesTheTapeEmpty(checks);
        letLeavesTheTapeEmpty(checks);
        holdsLeavesTheTapeEmpty(checks);
        nothingStandsBehindEnd(checks);
        valueIsOfAnE(checks);
        letTakesAVariableBut_(checks);
        letOfSomethingElseTellsPlace0(checks);
        letThrowsInOrder(checks);
        aRefusedLetChangesNoValue(checks);
        fiftyVariablesHaveValues(checks);
        oneThatHasAValueIsNoneMore(checks);
        letWorksWithTheValueBefore(checks);
        holdsComparesAtTheEdge(checks);
        holdsOfSomethingElseTellsPlace0(checks);
        holdsThrowsInOrder(checks);
        holdsAndValueChangeNoValue(checks);
        clearAnswersHowManyHadOne(checks);
        clearLeavesTapeAndPlaceAndError(checks);
        clearMakesRoomFor50Again(checks);
        countIsTakenFrom0To2(checks);
        countTellsTheLatest(checks);
        otherCallsLeaveWhatIsTold(checks);
        checks.finish();
    }

    private static ValueReckoner withFifty(Checks checks) {
        ValueReckoner x = new ValueReckoner();
        for (int i = 1; i <= 50; i++) {
            checks.dueLet(x, "V" + i + " is " + i + ".", Integer.toString(i));
        }
        return x;
    }

    private static ValueReckoner withX(Checks checks, String value) {
        ValueReckoner x = new ValueReckoner();
        checks.dueLet(x, "X is " + value + ".", "1");
        return x;
    }

    /** Feeds blanks up to that length. */
    private static void fill(ValueReckoner x, int length) {
        for (int i = 0; i < length; i += 20) {
            x.feed(BLANKS, BLANKS, BLANKS, BLANKS, BLANKS);
        }
        x.end(length);
    }

    /** Promise 1: No VARIABLE has a value. */
    private static void newObjectHasNoValues(Checks checks) {
        checks.dueCounts("nothing", new ValueReckoner(), 0, -1, 0);
        checks.due("clear() of a new object", new ValueReckoner().clear(), 0);
        for (String name : new String[] {"X", "A", "Z", "_", "__", "_1", "Abc"}) {
            checks.dueValue(name + ".", "error 1");
        }
        checks.dueValue("", "broken 0");
        checks.dueLet(new ValueReckoner(), "", "broken 0");
        checks.dueHolds(new ValueReckoner(), "", "broken 0");
        checks.dueLet(new ValueReckoner(), "X is X.", "error 1");
    }

    private static void objectsHaveNothingInCommon(Checks checks) {
        ValueReckoner x = withX(checks, "5");
        ValueReckoner y = new ValueReckoner();
        Checks.load(x, "X");
        checks.dueCounts("a call of another object", y, 0, -1, 0);
        checks.dueValue(y, "X.", "error 1");
        checks.due("clear() of the other", y.clear(), 0);
        checks.dueCounts("calls of another object", x, 1, -1, 0);
        x.end(0);
        checks.dueValue(x, "X.", "5");
    }

    /** Promise 2: The 20 bytes of five ints, the highest of each first. */
    private static void feedBringsTheHighestByteFirst(Checks checks) {
        ValueReckoner x = new ValueReckoner();
        checks.due("feed", x.feed(0x31323334, 0x35363738, 0x392B3130, 0x30303030, 0x3030302E), 20);
        checks.due("value of 123456789+100000000.", x.value(), 223456789L);
        checks.due("feed", x.feed(BLANKS, BLANKS, BLANKS, BLANKS, 0x20203132), 20);
        checks.due("feed", x.feed(0x33342E20, BLANKS, BLANKS, BLANKS, BLANKS), 40);
        checks.due("value of an INTEGER of two feeds", x.value(), 1234L);
        for (int place = 0; place < 20; place++) {
            int[] words = {BLANKS, BLANKS, BLANKS, BLANKS, BLANKS};
            words[place / 4] ^= (0x20 ^ 0xFF) << 24 - 8 * (place % 4);
            checks.due("feed", x.feed(words[0], words[1], words[2], words[3], words[4]), 20);
            checks.due("value of byte 255 at " + place, Checks.value(x, ""), "broken " + place);
        }
        checks.due("feed of 0", x.feed(0, 0, 0, 0, 0), 20);
        checks.due("value of bytes 0", Checks.value(x, ""), "broken 0");
        checks.due("feed of the least", x.feed(BLANKS, Integer.MIN_VALUE, 0, 0, 0), 20);
        checks.due("value of byte 128", Checks.value(x, ""), "broken 4");
    }

    /** Promise 2: it would have more than 4096: IndexOutOfBoundsException. Answers its length. */
    private static void feedIsTakenUpTo4096(Checks checks) {
        ValueReckoner x = new ValueReckoner();
        for (int length = 20; length <= 4080; length += 20) {
            checks.due("feed", x.feed(BLANKS, BLANKS, BLANKS, BLANKS, BLANKS), length);
        }
        for (int length = 4080; length > 4076; length--) {
            x.end(length);
            checks.due("feed at " + length, Checks.throwsIndexOutOfBounds(() -> x.feed(0, 0, 0, 0, 0)), true);
            checks.due("count(0)", x.count(0), length);
        }
        x.end(4076);
        checks.due("feed at 4076", x.feed(BLANKS, BLANKS, BLANKS, BLANKS, 0x2020372E), 4096);
        for (int length = 4096; length > 4076; length--) {
            x.end(length);
            checks.due("feed at " + length, Checks.throwsIndexOutOfBounds(() -> x.feed(0, 0, 0, 0, 0)), true);
            checks.due("count(0)", x.count(0), length);
        }
    }

    private static void aRefusedFeedChangesNothing(Checks checks) {
        ValueReckoner x = withX(checks, "5");
        checks.dueValue(x, "1//0.", "error 3");
        fill(x, 4076);
        x.feed(BLANKS, BLANKS, BLANKS, 0x20202058, 0x2B33372E);
        checks.due("feed of a full tape", Checks.throwsIndexOutOfBounds(() -> x.feed(0, 0, 0, 0, 0)), true);
        checks.dueCounts("a refused feed", x, 4096, -1, 3);
        checks.due("value of the full tape", x.value(), 42L);
        checks.dueCounts("value", x, 0, -1, 0);
        checks.due("feed of an empty tape", x.feed(0, 0, 0, 0, 0), 20);
        x.end(0);
        checks.dueValue(x, "1 2.", "broken 2");
        fill(x, 4080);
        checks.due("feed beyond", Checks.throwsIndexOutOfBounds(() -> x.feed(0, 0, 0, 0, 0)), true);
        checks.dueCounts("a refused feed", x, 4080, 2, 0);
        checks.due("clear()", x.clear(), 1);
    }

    /** Promise 3: n 0 .. its length. Answers n. */
    private static void endIsTakenFrom0ToTheLength(Checks checks) {
        ValueReckoner x = new ValueReckoner();
        checks.due("end(0) of an empty tape", x.end(0), 0);
        checks.due("end(1) of an empty tape", Checks.throwsIllegalArgument(() -> x.end(1)), true);
        checks.due("end(-1) of an empty tape", Checks.throwsIllegalArgument(() -> x.end(-1)), true);
        x.feed(BLANKS, BLANKS, BLANKS, BLANKS, BLANKS);
        checks.due("end(21)", Checks.throwsIllegalArgument(() -> x.end(21)), true);
        for (int n = 20; n >= 0; n--) {
            int length = n;
            checks.due("end(" + n + ")", x.end(n), n);
            checks.due("count(0)", x.count(0), n);
            checks.due("end(length) again", x.end(n), n);
            checks.due("end(length + 1)", Checks.throwsIllegalArgument(() -> x.end(length + 1)), true);
        }
        fill(x, 4076);
        checks.due("feed", x.feed(0, 0, 0, 0, 0), 4096);
        checks.due("end(4097)", Checks.throwsIllegalArgument(() -> x.end(4097)), true);
        checks.due("end(4096)", x.end(4096), 4096);
        checks.due("end(4095)", x.end(4095), 4095);
        checks.due("end(4096) of 4095", Checks.throwsIllegalArgument(() -> x.end(4096)), true);
    }

    private static void aRefusedEndChangesNothing(Checks checks) {
        ValueReckoner x = withX(checks, "5");
        checks.dueValue(x, "1 2.", "broken 2");
        Checks.load(x, "X+37.");
        for (int n : new int[] {-1, 6, 20, 4096, 4097, Integer.MIN_VALUE, Integer.MAX_VALUE, -5, 0x10000, -0x10000}) {
            checks.due("end(" + n + ")", Checks.throwsIllegalArgument(() -> x.end(n)), true);
            checks.dueCounts("a refused end", x, 5, 2, 0);
        }
        checks.due("value", x.value(), 42L);
        checks.due("end(1) behind value", Checks.throwsIllegalArgument(() -> x.end(1)), true);
        checks.due("end(0) behind value", x.end(0), 0);
    }

    /** Promise 3: The TAPE keeps its first n bytes. */
    private static void endKeepsTheFirstBytesAlone(Checks checks) {
        ValueReckoner x = new ValueReckoner();
        String text = "12345.";
        for (int n = 0; n <= text.length(); n++) {
            Checks.load(x, text);
            x.end(n);
            checks.due("value of the first " + n, Checks.value(x, ""), n == text.length() ? "12345" : "broken " + n);
        }
        Checks.load(x, "12345.");
        x.end(2);
        checks.due("feed behind end", x.feed(0x2E202020, BLANKS, BLANKS, BLANKS, BLANKS), 22);
        checks.due("value of 12.", x.value(), 12L);
        checks.due("feed", x.feed(0x372E2020, BLANKS, BLANKS, BLANKS, 0x20202029), 20);
        x.end(19);
        checks.due("value without the last byte", x.value(), 7L);
    }

    /** Promise 4: The TAPE, which is empty then (also if this throws). Checks.value looks at count(0), too. */
    private static void valueLeavesTheTapeEmpty(Checks checks) {
        ValueReckoner x = new ValueReckoner();
        checks.dueValue(x, "7.", "7");
        checks.due("value again", Checks.value(x, ""), "broken 0");
        checks.dueValue(x, "1 2.", "broken 2");
        checks.due("value again", Checks.value(x, ""), "broken 0");
        checks.dueValue(x, "7. 8.", "broken 3");
        checks.due("value again", Checks.value(x, ""), "broken 0");
        checks.dueValue(x, "X.", "error 1");
        checks.due("value again", Checks.value(x, ""), "broken 0");
        checks.due("feed", x.feed(0x372E2020, BLANKS, BLANKS, BLANKS, BLANKS), 20);
        checks.due("value of what came later alone", x.value(), 7L);
    }

    /** Promise 5: The TAPE, which is empty then (also if this throws). */
    private static void letLeavesTheTapeEmpty(Checks checks) {
        ValueReckoner x = withFifty(checks);
        for (String text : new String[] {"V1 is 1.", "V1 is 1", "V1.", "V1 is a.", "W is 1."}) {
            Checks.let(x, text);
            checks.due("count(0) behind let of " + text, x.count(0), 0);
            checks.due("end(1)", Checks.throwsIllegalArgument(() -> x.end(1)), true);
        }
        checks.dueLet(x, "", "broken 0");
        checks.due("value behind it", Checks.value(x, ""), "broken 0");
    }

    /** Promise 6: The TAPE, likewise. */
    private static void holdsLeavesTheTapeEmpty(Checks checks) {
        ValueReckoner x = new ValueReckoner();
        for (String text : new String[] {"1 < 2.", "2 < 1.", "1 < 2", "1.", "1 < a.", "X < 1."}) {
            Checks.holds(x, text);
            checks.due("count(0) behind holds of " + text, x.count(0), 0);
            checks.dueHolds(x, "", "broken 0");
        }
    }

    /** Promise 4: And no more (what stands behind END is broken at its first sign); 5 and 6 likewise. */
    private static void nothingStandsBehindEnd(Checks checks) {
        for (String more : new String[] {"2", "X", "a", "'a'", ".", ")", "(", "]", "[", "[]", "}", "{", ",", "|", "!", ";", "+",
            "'a", "\"", "\u0000", "\u00ff", "9007199254740992", "2.", "a b"}) {
            checks.dueValue("1. " + more, "broken 3");
            checks.dueValue("1.% x\n \t" + more, "broken 8");
            checks.dueValue("X. " + more, "broken 3");
            ValueReckoner x = withX(checks, "5");
            checks.dueLet(x, "X is 1. " + more, "broken 8");
            checks.dueLet(x, "f(X). " + more, "broken 6");
            checks.dueValue(x, "X.", "5");
            checks.dueHolds(x, "1 < 2. " + more, "broken 7");
        }
        for (String nothing : new String[] {"", " ", "\n", "\t\r\n ", "% )", "%)\n", "%)\n%", " %\n %\n "}) {
            checks.dueValue("1." + nothing, "1");
            checks.dueLet(new ValueReckoner(), "X is 1." + nothing, "1");
            checks.dueHolds(new ValueReckoner(), "1 < 2." + nothing, "true");
        }
    }

    /** Promise 4: an E: its value. Broken: UnsupportedOperationException, PLACE is told; an ERROR: ArithmeticException. */
    private static void valueIsOfAnE(Checks checks) {
        checks.dueValue("-" + GREATEST + ".", "-" + GREATEST);
        checks.dueValue(GREATEST + ".", GREATEST);
        checks.dueValue("X is 1.", "error 2");
        checks.dueValue("1 < 2.", "error 2");
        checks.dueValue("_ is 1.", "error 2");
        checks.dueValue("1 < 2 < 3.", "broken 6");
    }

    /** Promise 5: V is E, V a VARIABLE but _ . */
    private static void letTakesAVariableBut_(Checks checks) {
        checks.dueLet(new ValueReckoner(), "_ is 5.", "broken 0");
        checks.dueLet(new ValueReckoner(), "(_) is 5.", "broken 0");
        checks.dueLet(new ValueReckoner(), "is(_,5).", "broken 0");
        for (String name : new String[] {"__", "_0", "_a", "_A", "A", "Z", "A_", "X".repeat(300)}) {
            ValueReckoner x = new ValueReckoner();
            checks.dueLet(x, name + " is 5.", "1");
            checks.dueValue(x, name + ".", "5");
            checks.dueValue(x, "_.", "error 1");
            checks.due("clear()", x.clear(), 1);
        }
        for (String text : new String[] {"(Xy) is 5.", "is(Xy,5).", "(Xy is 5).", "  Xy is 5.", "%x\n\t Xy is 5 ."}) {
            ValueReckoner x = new ValueReckoner();
            checks.dueLet(x, text, "1");
            checks.dueLet(x, text, "1");
            checks.dueValue(x, "Xy.", "5");
        }
    }

    /** Promise 5: something else: UnsupportedOperationException, PLACE is told (something else: 0). */
    private static void letOfSomethingElseTellsPlace0(Checks checks) {
        ValueReckoner x = withX(checks, "5");
        for (String text : new String[] {"  6.", "  X.", "  a.", "  X = 6.", "  X =:= 6.", "  6 is 6.", "  a is 6.", "  [X] is 6.",
            "  f(X) is 6.", "  - X is 6.", "  X+0 is 6.", "  is(X).", "  is(X,6,7).", "  'X' is 6.", "  X is 6, X is 7.",
            "  (X is 6 :- a).", "  [X is 6].", "  f(X is 6).", "  \\+ X is 6.", "  is.", "  is is 6.", "  [X|6]."}) {
            checks.dueLet(x, text, "broken 0");
        }
        checks.dueValue(x, "X.", "5");
    }

    /** Promise 5: first broken, then something else, then an ERROR, then more than 50. */
    private static void letThrowsInOrder(Checks checks) {
        ValueReckoner x = withFifty(checks);
        checks.dueLet(x, "1 is 1//0 )", "broken 10");
        checks.dueLet(x, "W is 1//0 )", "broken 10");
        checks.dueLet(x, "1 is 1//0.", "broken 0");
        checks.dueLet(x, "_ is Y.", "broken 0");
        checks.dueLet(x, "W is Y.", "error 1");
        checks.dueLet(x, "W is a.", "error 2");
        checks.dueLet(x, "W is 1//0.", "error 3");
        checks.dueLet(x, "W is " + GREATEST + "+1.", "error 4");
        checks.dueLet(x, "W is 1.", "full");
        checks.dueCounts("let that is full", x, 0, -1, 0);
        checks.due("clear()", x.clear(), 50);
    }

    private static void aRefusedLetChangesNoValue(Checks checks) {
        ValueReckoner x = withX(checks, "5");
        for (String text : new String[] {"X is 6", "X is 6. 7", "X is 6 7.", "X is 9007199254740992.", "X is X+Y.", "X is a.",
            "X is X//0.", "X is " + GREATEST + "+X.", "X = 6.", "_ is 6.", "Y is Y.", "Y is a.", "Y is 1//0.", "Y is 6"}) {
            String answer = Checks.let(x, text);
            checks.due("let of " + text + " is refused", answer.startsWith("broken") || answer.startsWith("error"), true);
            checks.dueValue(x, "X.", "5");
            checks.dueValue(x, "Y.", "error 1");
        }
        checks.due("clear()", x.clear(), 1);
    }

    /** Promise 5: more than 50 VARIABLES with values: IndexOutOfBoundsException. Answers how many there are. */
    private static void fiftyVariablesHaveValues(Checks checks) {
        ValueReckoner x = withFifty(checks);
        checks.dueLet(x, "V51 is 51.", "full");
        checks.dueValue(x, "V51.", "error 1");
        checks.dueValue(x, "V1+V50+V25.", "76");
        checks.dueLet(x, "V is 1.", "full");
        checks.dueLet(x, "V500 is 1.", "full");
        checks.due("clear()", x.clear(), 50);
        checks.dueValue(x, "V1.", "error 1");
        checks.dueLet(x, "V51 is 51.", "1");
        checks.dueValue(x, "V51.", "51");
    }

    /** Promise 5: (one that has a value already is none more). */
    private static void oneThatHasAValueIsNoneMore(Checks checks) {
        ValueReckoner x = withX(checks, "5");
        checks.dueLet(x, "X is 5.", "1");
        checks.dueLet(x, "X is 6.", "1");
        checks.dueLet(x, "Y is 6.", "2");
        checks.dueLet(x, "X is 7.", "2");
        checks.due("clear()", x.clear(), 2);
        ValueReckoner full = withFifty(checks);
        checks.dueLet(full, "V1 is 100.", "50");
        checks.dueLet(full, "V50 is 200.", "50");
        checks.dueLet(full, "V51 is 1.", "full");
        checks.dueValue(full, "V1+V50+V2.", "302");
        checks.due("clear()", full.clear(), 50);
    }

    /** Promise 5: (E is worked out with the value that V had.) */
    private static void letWorksWithTheValueBefore(Checks checks) {
        ValueReckoner x = new ValueReckoner();
        checks.dueLet(x, "X is X+1.", "error 1");
        checks.dueLet(x, "X is 1.", "1");
        checks.dueLet(x, "X is X+X.", "1");
        checks.dueValue(x, "X.", "2");
        checks.dueLet(x, "X is X*(X+X*X).", "1");
        checks.dueValue(x, "X.", "12");
        checks.dueLet(x, "X is X.", "1");
        checks.dueValue(x, "X.", "12");
    }

    /** Promise 6: E and F with < > =< >= =:= or =\= between: less by 1, equal, greater by 1. */
    private static void holdsComparesAtTheEdge(Checks checks) {
        String[][] pairs = {{"4", "5"}, {"5", "5"}, {"6", "5"}, {"-" + GREATEST, GREATEST}, {GREATEST, GREATEST},
            {GREATEST, "9007199254740990"}, {"-1", "0"}, {"-0", "0"}, {"0", "-1"}, {"-5", "-4"}, {"-5", "-5"}, {"-5", "-6"}};
        for (int i = 0; i < pairs.length; i++) {
            int order = i % 3 - 1;
            String[] operators = {"<", ">", "=<", ">=", "=:=", "=\\="};
            boolean[] wants = {order < 0, order > 0, order <= 0, order >= 0, order == 0, order != 0};
            for (int op = 0; op < operators.length; op++) {
                String text = pairs[i][0] + " " + operators[op] + " " + pairs[i][1] + ".";
                checks.dueHolds(new ValueReckoner(), text, Boolean.toString(wants[op]));
            }
        }
    }

    /** Promise 6: As for let: something else: 0. */
    private static void holdsOfSomethingElseTellsPlace0(Checks checks) {
        ValueReckoner x = withX(checks, "5");
        for (String text : new String[] {"  6.", "  X.", "  X = 5.", "  X == 5.", "  X \\= 5.", "  X \\== 5.", "  X is 5.",
            "  <(1).", "  <(1,2,3).", "  (1 < 2, 2 < 3).", "  [1 < 2].", "  f(1 < 2).", "  \\+ 1 < 2.", "  - (1 < 2).",
            "  1 < 2 :- a.", "  1 + 2.", "  [1|2].", "  '<' ."}) {
            checks.dueHolds(x, text, "broken 0");
        }
        checks.dueHolds(x, "X =:= 5.", "true");
    }

    /** Promise 6: As for let: first broken, then something else, then an ERROR, of the left E first. */
    private static void holdsThrowsInOrder(Checks checks) {
        checks.dueHolds(new ValueReckoner(), "X = 1//0 )", "broken 9");
        checks.dueHolds(new ValueReckoner(), "X < 1//0 )", "broken 9");
        checks.dueHolds(new ValueReckoner(), "X = 1//0.", "broken 0");
        checks.dueHolds(new ValueReckoner(), "X < 1//0.", "error 1");
        checks.dueHolds(new ValueReckoner(), "1//0 < X.", "error 3");
        checks.dueHolds(new ValueReckoner(), "a < X.", "error 2");
        checks.dueHolds(new ValueReckoner(), GREATEST + "+1 < a.", "error 4");
        checks.dueHolds(new ValueReckoner(), "1 < a.", "error 2");
    }

    private static void holdsAndValueChangeNoValue(Checks checks) {
        ValueReckoner x = withX(checks, "5");
        checks.dueHolds(x, "X =:= 6.", "false");
        checks.dueValue(x, "X is 6.", "error 2");
        checks.dueHolds(x, "X is 6.", "broken 0");
        checks.dueHolds(x, "Y =:= 6.", "error 1");
        checks.dueValue(x, "X.", "5");
        checks.dueValue(x, "Y.", "error 1");
        checks.due("clear()", x.clear(), 1);
    }

    /** Promise 7: No VARIABLE has a value. Answers how many had one. */
    private static void clearAnswersHowManyHadOne(Checks checks) {
        ValueReckoner x = new ValueReckoner();
        checks.due("clear() of none", x.clear(), 0);
        for (int many = 1; many <= 3; many++) {
            for (int i = 1; i <= many; i++) {
                checks.dueLet(x, "V" + i + " is " + i + ".", Integer.toString(i));
            }
            checks.due("clear() of " + many, x.clear(), many);
            checks.due("clear() again", x.clear(), 0);
            for (int i = 1; i <= many; i++) {
                checks.dueValue(x, "V" + i + ".", "error 1");
            }
        }
    }

    /** A VARIABLE's value alone is taken away. */
    private static void clearLeavesTapeAndPlaceAndError(Checks checks) {
        ValueReckoner x = withX(checks, "5");
        checks.dueValue(x, "1 2.", "broken 2");
        Checks.load(x, "6*7.");
        checks.due("clear()", x.clear(), 1);
        checks.dueCounts("clear", x, 4, 2, 0);
        checks.due("value behind clear", x.value(), 42L);
        checks.dueValue(x, "1//0.", "error 3");
        checks.due("clear()", x.clear(), 0);
        checks.dueCounts("clear", x, 0, -1, 3);
    }

    private static void clearMakesRoomFor50Again(Checks checks) {
        ValueReckoner x = new ValueReckoner();
        for (int round = 1; round <= 2; round++) {
            for (int i = 1; i <= 50; i++) {
                x.feed(0x56000000 | 0x30 + i / 10 << 16 | 0x30 + i % 10 << 8 | 0x20, 0x69732037, 0x2E202020, BLANKS, BLANKS);
                checks.due("let of a variable in round " + round, x.let(), i);
            }
            checks.dueLet(x, "W is 1.", "full");
            checks.due("clear()", x.clear(), 50);
        }
    }

    /** Promise 8: what 0 .. 2. */
    private static void countIsTakenFrom0To2(Checks checks) {
        ValueReckoner x = withX(checks, "5");
        checks.dueValue(x, "1 2.", "broken 2");
        Checks.load(x, "X+37.");
        for (int what : new int[] {-1, 3, 4, -2, 256, -256, 0x10000, Integer.MIN_VALUE, Integer.MAX_VALUE}) {
            checks.due("count(" + what + ")", Checks.throwsIllegalArgument(() -> x.count(what)), true);
            checks.dueCounts("a refused count", x, 5, 2, 0);
        }
        checks.due("value", x.value(), 42L);
    }

    /** Promise 8: PLACE of the latest value, let or holds, -1 if it told none; which ERROR the latest had, 0 none. */
    private static void countTellsTheLatest(Checks checks) {
        String[] values = {"1.", "1 2.", "X.", "a."};
        String[] lets = {"X is 1.", "X is 1 2.", "X is Z.", "X is a.", " 7."};
        String[] comparisons = {"1 < 2.", "1 < 2 3.", "Z < 1.", "a < 1.", " 7."};
        String[] wantValues = {"1", "broken 2", "error 1", "error 2"};
        String[] wantLets = {"1", "broken 7", "error 1", "error 2", "broken 0"};
        String[] wantComparisons = {"true", "broken 6", "error 1", "error 2", "broken 0"};
        for (int i = 0; i < values.length; i++) {
            for (int j = 0; j < lets.length; j++) {
                ValueReckoner x = new ValueReckoner();
                checks.dueValue(x, values[i], wantValues[i]);
                checks.dueHolds(x, comparisons[j], wantComparisons[j]);
                checks.dueValue(x, values[i], wantValues[i]);
                checks.dueLet(x, lets[j], wantLets[j]);
                checks.dueHolds(x, comparisons[j], wantComparisons[j]);
                checks.dueLet(x, lets[j], wantLets[j]);
            }
        }
        ValueReckoner full = withFifty(checks);
        checks.dueValue(full, "1//0.", "error 3");
        checks.dueLet(full, "W is 1.", "full");
        checks.dueValue(full, "1 2.", "broken 2");
        checks.dueLet(full, "W is 1.", "full");
    }

    /** Of the latest value, let or holds: feed, end, clear and count tell nothing, taken or refused. */
    private static void otherCallsLeaveWhatIsTold(Checks checks) {
        ValueReckoner x = new ValueReckoner();
        int[] places = {-1, 2, -1};
        int[] errors = {0, 0, 3};
        String[] texts = {"7.", "1 2.", "1//0."};
        for (int i = 0; i < texts.length; i++) {
            Checks.value(x, texts[i]);
            x.feed(0, 0, 0, 0, 0);
            checks.dueCounts("feed", x, 20, places[i], errors[i]);
            x.end(3);
            checks.dueCounts("end", x, 3, places[i], errors[i]);
            checks.due("end(4)", Checks.throwsIllegalArgument(() -> x.end(4)), true);
            checks.due("count(3)", Checks.throwsIllegalArgument(() -> x.count(3)), true);
            x.clear();
            checks.dueCounts("clear", x, 3, places[i], errors[i]);
            x.end(0);
            checks.dueCounts("end(0)", x, 0, places[i], errors[i]);
        }
    }
}

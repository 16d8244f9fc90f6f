import java.util.Random;

/** Many made-up runs of calls, the same at each run of the test, answered by the program and by PlainReckoner. */
public final class AgainstPlainTest {
    private static final String[] PIECES = {"X", "Y", "_", "_Z", "Ab", "0", "1", "2", "7", "9007199254740991",
        "9007199254740992", "a", "foo", "abs", "min", "max", "mod", "rem", "is", "'is'", "'-'", "'a b'", "'it''s'", "''",
        "','", "'", "+", "-", "*", "//", "/", "\\+", "=", "\\=", "==", "\\==", "<", ">", "=<", ">=", "=:=", "=\\=", ":-",
        "->", ";", "!", ",", "|", "(", ")", "(", ")", "[", "]", "[]", "{", "}", ".", ". ", ".\n", "%", "%x\n", " ", "  ",
        "\n", "\t", "\"", "\u0000", "\u00e9", "f(", "abs(", "min(", "-(", "- ", "-1", "1", "X", "a", "Y"};
    private static final String[] SUMS = {"+", "-", "*", "//", "mod", "rem"};
    private static final String[] COMPARISONS = {"<", ">", "=<", ">=", "=:=", "=\\=", "is", "="};
    private static final String[] OTHERS = {":-", ";", "->", ",", "=", "==", "<"};
    private static final String[] NAMES = {"X", "Y", "Z", "_", "_Z", "Ab", "A"};
    private static final String[] NUMBERS = {"0", "1", "2", "3", "5", "10", "94906266", "94906265", "9007199254740991",
        "4503599627370496"};

    // The document says nothing of an object behind its 512th call.
    private static final int MOST_CALLS = 512;

    private final Random random = new Random(20261115);
    private final Checks checks = new Checks();
    private int working = 0;

    public static void main(String[] args) {
        AgainstPlainTest test = new AgainstPlainTest();
        for (int run = 0; run < 3000; run++) {
            test.run();
        }
        test.checks.due("enough texts are worked out", test.working > 20000, true);
        test.checks.finish();
    }

    private void run() {
        ValueReckoner x = new ValueReckoner();
        PlainReckoner plain = new PlainReckoner();
        int calls = 0;
        for (int i = 0; i < 40; i++) {
            String text = text();
            calls += 1 + text.length() / 20 + 1 + 1 + 1 + 3;
            if (calls > MOST_CALLS) {
                return;
            }
            if (random.nextInt(40) == 0) {
                checks.due("clear()", x.clear(), plain.clear());
            }
            String want;
            switch (random.nextInt(3)) {
                case 0:
                    want = plain.value(text);
                    checks.due("value of " + Checks.shown(text), Checks.value(x, text), want);
                    break;
                case 1:
                    want = plain.let(text);
                    checks.dueLet(x, text, want);
                    break;
                default:
                    want = plain.holds(text);
                    checks.dueHolds(x, text, want);
            }
            working += want.startsWith("broken") ? 0 : 1;
        }
    }

    private String text() {
        switch (random.nextInt(8)) {
            case 0:
                return pieces(1 + random.nextInt(12));
            case 1:
                return changed(whole());
            case 2:
                return term(3) + gap() + ".";
            case 3:
                return deep();
            case 4:
                return changed(term(3) + gap() + ".");
            default:
                return whole();
        }
    }

    private String pieces(int count) {
        StringBuilder text = new StringBuilder();
        for (int i = 0; i < count; i++) {
            text.append(one(PIECES));
            text.append(random.nextInt(3) == 0 ? " " : "");
        }
        return text.append(random.nextBoolean() ? "." : "").toString();
    }

    private String whole() {
        String sides = random.nextInt(3) == 0 ? sum(3) : random.nextInt(2) == 0 ? one(NAMES) + " is " + sum(3)
            : sum(2) + " " + one(COMPARISONS) + " " + sum(2);
        return sides + gap() + ".";
    }

    private String changed(String text) {
        int from = random.nextInt(text.length());
        int to = Math.min(text.length(), from + random.nextInt(3));
        return text.substring(0, from) + (random.nextBoolean() ? one(PIECES) : "") + text.substring(to);
    }

    private String sum(int depth) {
        if (depth == 0 || random.nextInt(5) == 0) {
            return random.nextInt(12) == 0 ? "a" : random.nextBoolean() ? one(NAMES)
                : (random.nextInt(4) == 0 ? "-" : "") + one(NUMBERS);
        }
        switch (random.nextInt(10)) {
            case 0:
                return "(" + sum(depth - 1) + ")";
            case 1:
                return "- " + sum(depth - 1);
            case 2:
                return "abs(" + sum(depth - 1) + ")";
            case 3:
                return (random.nextBoolean() ? "min(" : "max(") + sum(depth - 1) + "," + sum(depth - 1) + ")";
            case 4:
                return one(SUMS) + "(" + sum(depth - 1) + "," + sum(depth - 1) + ")";
            default:
                return sum(depth - 1) + " " + one(SUMS) + " " + sum(depth - 1);
        }
    }

    private String term(int depth) {
        switch (depth == 0 ? 0 : random.nextInt(7)) {
            case 0:
                return random.nextInt(3) == 0 ? one(PIECES) : sum(1);
            case 1:
                return "f(" + terms(depth, 1 + random.nextInt(9)) + ")";
            case 2:
                return "[" + terms(depth, 1 + random.nextInt(3)) + (random.nextBoolean() ? "|" + term(depth - 1) : "") + "]";
            case 3:
                return (random.nextBoolean() ? "\\+ " : "- ") + term(depth - 1);
            case 4:
                return "(" + term(depth - 1) + ")";
            default:
                return term(depth - 1) + gap() + one(OTHERS) + gap() + term(depth - 1);
        }
    }

    private String terms(int depth, int count) {
        StringBuilder text = new StringBuilder(term(depth - 1));
        for (int i = 1; i < count; i++) {
            text.append(',').append(term(count > 3 ? 0 : depth - 1));
        }
        return text.toString();
    }

    /** Near the bounds of open terms and of symbols. */
    private String deep() {
        String[] opens = {"(", "- ", "abs(", "[", "1+(", "f(1,", "[1|", "1,", "\\+ ", "-("};
        String[] closes = {")", "", ")", "]", ")", ")", "]", "", "", ")"};
        StringBuilder text = new StringBuilder();
        StringBuilder behind = new StringBuilder();
        boolean isMixed = random.nextBoolean();
        int which = random.nextInt(opens.length);
        int count = 40 + random.nextInt(62);
        for (int i = 0; i < count; i++) {
            which = isMixed ? random.nextInt(opens.length) : which;
            text.append(opens[which]);
            behind.insert(0, closes[which]);
        }
        text.append(random.nextBoolean() ? "1" : "-1+2");
        int more = random.nextInt(4) == 0 ? 380 + random.nextInt(130) : 0;
        return gap() + text + "+1".repeat(more) + behind + ".";
    }

    private String gap() {
        return one(new String[] {"", " ", " ", "%x\n", "\n"});
    }

    private String one(String[] choices) {
        return choices[random.nextInt(choices.length)];
    }
}

import java.nio.charset.StandardCharsets;

/** What the tests share: texts brought to the tape, answers told as text, and the wrong ones counted. */
final class Checks {
    private static final int CHUNK = 20;
    private static final int MOST_BYTES = 4096;
    private int wrong = 0;

    /** Puts the text on an empty tape, whatever its length up to 4096, with no more calls than it needs. */
    static void load(ValueReckoner x, String text) {
        byte[] bytes = text.getBytes(StandardCharsets.ISO_8859_1);
        int length = 0;
        for (int from = 0; from < bytes.length; from += CHUNK) {
            int start = from + CHUNK > MOST_BYTES ? x.end(MOST_BYTES - CHUNK) : from;
            length = x.feed(word(bytes, start), word(bytes, start + 4), word(bytes, start + 8), word(bytes, start + 12),
                word(bytes, start + 16));
        }
        if (length > bytes.length) {
            x.end(bytes.length);
        }
    }

    private static int word(byte[] bytes, int from) {
        int word = 0;
        for (int i = from; i < from + 4; i++) {
            word = word << 8 | (i < bytes.length ? bytes[i] & 0xFF : 0);
        }
        return word;
    }

    /** The answer, or "broken" with PLACE, or "error" with its number, or "full". */
    static String value(ValueReckoner x, String text) {
        load(x, text);
        String answer;
        try {
            answer = Long.toString(x.value());
        } catch (RuntimeException e) {
            answer = thrown(e);
        }
        return told(x, answer);
    }

    static String let(ValueReckoner x, String text) {
        load(x, text);
        String answer;
        try {
            answer = Integer.toString(x.let());
        } catch (RuntimeException e) {
            answer = thrown(e);
        }
        return told(x, answer);
    }

    static String holds(ValueReckoner x, String text) {
        load(x, text);
        String answer;
        try {
            answer = Boolean.toString(x.holds());
        } catch (RuntimeException e) {
            answer = thrown(e);
        }
        return told(x, answer);
    }

    /** A subclass of what the document names is not what it names. */
    private static String thrown(RuntimeException e) {
        Class<?> kind = e.getClass();
        return kind == UnsupportedOperationException.class ? "broken" : kind == ArithmeticException.class ? "error"
            : kind == IndexOutOfBoundsException.class ? "full" : e.toString();
    }

    /** Adds what count tells, and shows it where it does not fit the answer. */
    private static String told(ValueReckoner x, String answer) {
        int place = x.count(1);
        int error = x.count(2);
        if (x.count(0) != 0) {
            return answer + " with a tape of " + x.count(0);
        }
        if (answer.equals("broken") && error == 0) {
            return "broken " + place;
        }
        if (answer.equals("error") && place == -1) {
            return "error " + error;
        }
        return place == -1 && error == 0 ? answer : answer + " with place " + place + " and error " + error;
    }

    void due(String call, Object got, Object want) {
        if (!got.equals(want)) {
            wrong++;
            System.out.println(call + " answered " + got + ", due is " + want);
        }
    }

    void dueValue(String text, String want) {
        due("value of " + shown(text), value(new ValueReckoner(), text), want);
    }

    void dueValue(ValueReckoner x, String text, String want) {
        due("value of " + shown(text), value(x, text), want);
    }

    void dueLet(ValueReckoner x, String text, String want) {
        due("let of " + shown(text), let(x, text), want);
    }

    void dueHolds(ValueReckoner x, String text, String want) {
        due("holds of " + shown(text), holds(x, text), want);
    }

    static String shown(String text) {
        return text.length() <= 200 ? "<" + text + ">" : "<" + text.substring(0, 200) + "...> of " + text.length();
    }

    /** What the three counts tell: bytes of the tape, PLACE, ERROR. */
    void dueCounts(String behind, ValueReckoner x, int bytes, int place, int error) {
        due("count(0) behind " + behind, x.count(0), bytes);
        due("count(1) behind " + behind, x.count(1), place);
        due("count(2) behind " + behind, x.count(2), error);
    }

    static boolean throwsIllegalArgument(Runnable call) {
        return IllegalArgumentException.class == classThrown(call);
    }

    static boolean throwsIndexOutOfBounds(Runnable call) {
        return IndexOutOfBoundsException.class == classThrown(call);
    }

    private static Class<?> classThrown(Runnable call) {
        try {
            call.run();
            return null;
        } catch (RuntimeException e) {
            return e.getClass();
        }
    }

    void finish() {
        System.out.println(wrong == 0 ? "all answers are as due" : wrong + " answers are not as due");
        if (wrong != 0) {
            System.exit(1);
        }
    }
}

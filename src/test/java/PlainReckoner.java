import java.math.BigInteger;
import java.util.ArrayList;
import java.util.HashMap;
import java.util.List;
import java.util.Map;
import java.util.regex.Matcher;
import java.util.regex.Pattern;

/**
 * The document once more, in another way: all signs are cut first, the term is read by calls within calls into a tree,
 * and the tree is worked out afterwards. AgainstPlainTest compares the program with it.
 */
final class PlainReckoner {
    private static final long GREATEST = (1L << 53) - 1;
    private static final Pattern BLANKS = Pattern.compile("([\\t\\n\\r ]|%[^\\n]*(\\n|$))*+");
    // In the order of FORMS; q is a name in ' ', s one of symbol characters.
    private static final String KINDS = "vinqsnp";
    private static final Pattern[] FORMS = {Pattern.compile("[A-Z_][A-Za-z0-9_]*+"), Pattern.compile("[0-9]++"),
        Pattern.compile("[a-z][A-Za-z0-9_]*+"), Pattern.compile("'([ -&(-~]|'')*+'"),
        Pattern.compile("[-+*/\\\\^<>=~:.?@#&$]++"), Pattern.compile("[!;]|\\[\\]"), Pattern.compile("[\\[\\](){},|]")};
    private static final Map<String, int[]> INFIX = new HashMap<>();
    private static final Map<String, Integer> PREFIX = Map.of("\\+", 900, "-", 200);

    static {
        infix(1200, 1, 1, ":-");
        infix(1100, 1, 0, ";");
        infix(1050, 1, 0, "->");
        infix(1000, 1, 0, ",");
        infix(700, 1, 1, "=", "\\=", "==", "\\==", "is", "<", ">", "=<", ">=", "=:=", "=\\=");
        infix(500, 0, 1, "+", "-");
        infix(400, 0, 1, "*", "//", "mod", "rem");
    }

    private static void infix(int priority, int lessLeft, int lessRight, String... names) {
        for (String name : names) {
            INFIX.put(name, new int[] {priority, priority - lessLeft, priority - lessRight});
        }
    }

    private static final class Broken extends Exception {
        private static final long serialVersionUID = 1;
        final int place;

        Broken(int place) {
            this.place = place;
        }
    }

    private static final class Wrong extends Exception {
        private static final long serialVersionUID = 1;
        final int error;

        Wrong(int error) {
            this.error = error;
        }
    }

    /** kind: v variable, i integer, n name, p punctuation, e END, z nothing more, b broken. */
    private record Sign(char kind, String text, int place, int after) { }

    private record Tree(char kind, String text, List<Tree> parts, int priority) {
        int size() {
            int sum = 1;
            for (Tree part : parts) {
                sum += part.size();
            }
            return sum;
        }

        Tree at(int priority) {
            return new Tree(kind, text, parts, priority);
        }
    }

    private final Map<String, Long> values = new HashMap<>();
    private List<Sign> signs;
    private int at;

    String value(String text) {
        try {
            return Long.toString(worth(read(text)));
        } catch (Broken e) {
            return "broken " + e.place;
        } catch (Wrong e) {
            return "error " + e.error;
        }
    }

    String let(String text) {
        try {
            Tree tree = read(text);
            boolean isLet = tree.text.equals("is") && tree.parts.size() == 2 && tree.parts.get(0).kind == 'v';
            if (!isLet || tree.parts.get(0).text.equals("_")) {
                return "broken 0";
            }
            long result = worth(tree.parts.get(1));
            String name = tree.parts.get(0).text;
            if (!values.containsKey(name) && values.size() == 50) {
                return "full";
            }
            values.put(name, result);
            return Integer.toString(values.size());
        } catch (Broken e) {
            return "broken " + e.place;
        } catch (Wrong e) {
            return "error " + e.error;
        }
    }

    String holds(String text) {
        try {
            Tree tree = read(text);
            if (tree.parts.size() != 2 || !List.of("<", ">", "=<", ">=", "=:=", "=\\=").contains(tree.text)) {
                return "broken 0";
            }
            int order = Long.compare(worth(tree.parts.get(0)), worth(tree.parts.get(1)));
            return Boolean.toString(switch (tree.text) {
                case "<" -> order < 0;
                case ">" -> order > 0;
                case "=<" -> order <= 0;
                case ">=" -> order >= 0;
                case "=:=" -> order == 0;
                default -> order != 0;
            });
        } catch (Broken e) {
            return "broken " + e.place;
        } catch (Wrong e) {
            return "error " + e.error;
        }
    }

    int clear() {
        int before = values.size();
        values.clear();
        return before;
    }

    private long worth(Tree tree) throws Wrong {
        if (tree.kind == 'i') {
            return Long.parseLong(tree.text);
        }
        if (tree.kind == 'v') {
            if (!values.containsKey(tree.text)) {
                throw new Wrong(1);
            }
            return values.get(tree.text);
        }
        String shape = tree.text + "/" + tree.parts.size();
        if (!List.of("-/1", "abs/1", "+/2", "-/2", "*/2", "///2", "mod/2", "rem/2", "min/2", "max/2").contains(shape)) {
            throw new Wrong(2);
        }
        BigInteger a = BigInteger.valueOf(worth(tree.parts.get(0)));
        BigInteger b = BigInteger.valueOf(tree.parts.size() > 1 ? worth(tree.parts.get(1)) : 1);
        if (b.signum() == 0 && List.of("//", "mod", "rem").contains(tree.text)) {
            throw new Wrong(3);
        }
        BigInteger result = switch (shape) {
            case "-/1" -> a.negate();
            case "abs/1" -> a.abs();
            case "+/2" -> a.add(b);
            case "-/2" -> a.subtract(b);
            case "*/2" -> a.multiply(b);
            case "///2" -> a.divide(b);
            case "rem/2" -> a.remainder(b);
            case "mod/2" -> b.signum() > 0 ? a.mod(b) : a.negate().mod(b.negate()).negate();
            case "min/2" -> a.min(b);
            default -> a.max(b);
        };
        if (result.abs().compareTo(BigInteger.valueOf(GREATEST)) > 0) {
            throw new Wrong(4);
        }
        return result.longValueExact();
    }

    private Tree read(String text) throws Broken {
        signs = cut(text);
        at = 0;
        int first = sign().place;
        Tree tree = term(1200, 1);
        if (sign().kind != 'e') {
            throw new Broken(sign().place);
        }
        at++;
        if (sign().kind != 'z') {
            throw new Broken(sign().place);
        }
        if (tree.size() > 1000) {
            throw new Broken(first);
        }
        return tree;
    }

    private Sign sign() {
        return signs.get(at);
    }

    private boolean is(String punctuation) {
        return sign().kind == 'p' && sign().text.equals(punctuation);
    }

    private void take(String punctuation) throws Broken {
        if (!is(punctuation)) {
            throw new Broken(sign().place);
        }
        at++;
    }

    private int[] infix() {
        return sign().kind == 'n' && !sign().text.equals(",") || is(",") ? INFIX.get(sign().text) : null;
    }

    private Tree term(int most, int depth) throws Broken {
        if (depth > 100) {
            throw new Broken(sign().place);
        }
        Tree left = primary(most, depth);
        while (true) {
            int[] infix = infix();
            if (infix == null || infix[0] > most || left.priority > infix[1]) {
                return left;
            }
            String name = sign().text;
            at++;
            left = new Tree('c', name, List.of(left, term(infix[2], depth + 1)), infix[0]);
        }
    }

    private Tree primary(int most, int depth) throws Broken {
        Sign first = sign();
        at++;
        if (first.kind == 'v' || first.kind == 'i') {
            return new Tree(first.kind, first.text, List.of(), 0);
        }
        if (first.kind == 'n') {
            return named(first, most, depth);
        }
        if (first.kind == 'p' && first.text.equals("(")) {
            Tree inside = term(1200, depth + 1);
            take(")");
            return inside.at(0);
        }
        if (first.kind == 'p' && first.text.equals("[")) {
            return list(depth);
        }
        throw new Broken(first.place);
    }

    private Tree named(Sign first, int most, int depth) throws Broken {
        boolean adjoins = sign().place == first.after;
        if (adjoins && is("(")) {
            return new Tree('c', first.text, arguments(depth), 0);
        }
        if (adjoins && first.text.equals("-") && sign().kind == 'i') {
            String digits = sign().text;
            at++;
            return new Tree('i', "-" + digits, List.of(), 0);
        }
        Integer prefix = PREFIX.get(first.text);
        if (prefix == null || prefix > most || !canBegin()) {
            return new Tree('a', first.text, List.of(), 0);
        }
        return new Tree('c', first.text, List.of(term(prefix, depth + 1)), prefix);
    }

    private boolean canBegin() {
        if (sign().kind == 'n' && PREFIX.containsKey(sign().text)) {
            return true;
        }
        return infix() == null && sign().kind != 'e' && !is(")") && !is("]") && !is("}") && !is(",") && !is("|");
    }

    private List<Tree> arguments(int depth) throws Broken {
        List<Tree> parts = new ArrayList<>();
        do {
            at++;
            if (parts.size() == 8) {
                throw new Broken(sign().place);
            }
            parts.add(term(999, depth + 1));
        } while (is(","));
        take(")");
        return parts;
    }

    private Tree list(int depth) throws Broken {
        List<Tree> parts = new ArrayList<>();
        parts.add(term(999, depth + 1));
        while (is(",")) {
            at++;
            parts.add(term(999, depth + 1));
        }
        Tree tail = new Tree('a', "[]", List.of(), 0);
        if (is("|")) {
            at++;
            tail = term(999, depth + 1);
        }
        take("]");
        for (int i = parts.size() - 1; i >= 0; i--) {
            tail = new Tree('c', ".", List.of(parts.get(i), tail), 0);
        }
        return tail.at(0);
    }

    private static List<Sign> cut(String text) {
        List<Sign> signs = new ArrayList<>();
        int i = 0;
        while (true) {
            Matcher blanks = BLANKS.matcher(text);
            blanks.region(i, text.length()).lookingAt();
            i = blanks.end();
            Sign next = cutOne(text, i);
            signs.add(next);
            if (next.kind == 'z' || next.kind == 'b') {
                return signs;
            }
            i = next.after;
        }
    }

    private static Sign cutOne(String text, int i) {
        if (i == text.length()) {
            return new Sign('z', "", i, i);
        }
        for (int form = 0; form < FORMS.length; form++) {
            Matcher matcher = FORMS[form].matcher(text);
            if (matcher.region(i, text.length()).lookingAt()) {
                return formed(KINDS.charAt(form), matcher.group(), i, matcher.end(), text);
            }
        }
        return new Sign('b', "", i, i);
    }

    private static Sign formed(char form, String found, int from, int to, String text) {
        if (form == 'q') {
            return new Sign('n', found.substring(1, found.length() - 1).replace("''", "'"), from, to);
        }
        if (form == 's') {
            boolean isEnd = found.equals(".") && (to == text.length() || "\t\n\r %".indexOf(text.charAt(to)) >= 0);
            return new Sign(isEnd ? 'e' : 'n', found, from, to);
        }
        boolean isTooGreat = form == 'i' && new BigInteger(found).bitLength() > 53;
        return new Sign(isTooGreat ? 'b' : form, found, from, to);
    }
}

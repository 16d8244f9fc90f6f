/** The SIGNS: for each sentence the characters that still belong to it and the first ones beside them that do not. */
public final class BoundsOfSignsTest {
    private static final String SYMBOLS = "+-*/\\^<>=~:.?@#&$";

    public static void main(String[] args) {
        Checks checks = new Checks();
        blanksAre9And10And13And32(checks);
        aCommentGoesUpTo10(checks);
        aCommentGoesUpToTheEnd(checks);
        aVariableBeginsWithACapitalOr_(checks);
        anIntegerIsDigits(checks);
        aNameBeginsWithASmallLetter(checks);
        wordsGoOnWithLettersDigitsAnd_(checks);
        quotesHold32To126(checks);
        aDoubledQuoteIsOneInIt(checks);
        aNameHasAsManySymbolsAsFollowOneAnother(checks);
        otherCharactersAreNoSymbols(checks);
        aPointBeforeABlankOrCommentOrTheEndIsEnd(checks);
        aPointThatDoesNotStandAloneIsNoEnd(checks);
        cutAndSemicolonStandAlone(checks);
        theEmptyListHasNothingBetween(checks);
        aParenthesisRightBehindANameOpensItsTerms(checks);
        bytesThatBeginNoSign(checks);
        checks.finish();
    }

    private static String text(int character) {
        return String.valueOf((char) character);
    }

    private static boolean isBlank(int character) {
        return character == 9 || character == 10 || character == 13 || character == 32;
    }

    /** Blanks (9, 10, 13, 32): every other byte up to 32 begins no sign. */
    private static void blanksAre9And10And13And32(Checks checks) {
        for (int c = 0; c <= 32; c++) {
            checks.dueValue("1" + text(c) + "+2.", isBlank(c) ? "3" : "broken 1");
            checks.dueValue(text(c) + "1.", isBlank(c) ? "1" : "broken 0");
            checks.dueValue("1." + text(c), isBlank(c) ? "1" : "broken 1");
            checks.dueValue("1. " + text(c), isBlank(c) ? "1" : "broken 3");
        }
        checks.dueValue("\t\n\r 1\t\n\r +\t\n\r 2\t\n\r .\t\n\r ", "3");
        checks.dueValue("1\u00a0+2.", "broken 1");
        checks.dueValue("1\u0085+2.", "broken 1");
    }

    /** Comments: % up to 10. */
    private static void aCommentGoesUpTo10(Checks checks) {
        checks.dueValue("%\n1.", "1");
        checks.dueValue("1%\n+2.", "3");
        checks.dueValue("1 % + 5. \n+2.", "3");
        checks.dueValue("%a\n%b\n\n%%c\n1.", "1");
        checks.dueValue("1%x\r+5.\n+2.", "3");
        checks.dueValue("1%'\n+2.", "3");
        checks.dueValue("%x\n\n)", "broken 4");
        for (int c = 0; c <= 255; c++) {
            checks.dueValue("1%" + text(c) + "+5.\n+2.", c == 10 ? "broken 7" : "3");
        }
    }

    /** Comments: % up to the end. */
    private static void aCommentGoesUpToTheEnd(Checks checks) {
        checks.dueValue("%", "broken 1");
        checks.dueValue("%%%%", "broken 4");
        checks.dueValue("1%", "broken 2");
        checks.dueValue("1% .", "broken 4");
        checks.dueValue("1.%", "1");
        checks.dueValue("1. %.", "1");
        checks.dueValue("1.%\n", "1");
        checks.dueValue("1.%\n2", "broken 4");
    }

    /** VARIABLE: a letter A .. Z or _. Behind the whole name of one without a value stands ERROR 1. */
    private static void aVariableBeginsWithACapitalOr_(Checks checks) {
        for (char c = 'A'; c <= 'Z'; c++) {
            checks.dueValue(c + ".", "error 1");
        }
        checks.dueValue("_.", "error 1");
        checks.dueValue("@ .", "error 2");
        checks.dueValue("[.", "broken 1");
        checks.dueValue("^ .", "error 2");
        checks.dueValue("`.", "broken 0");
        checks.dueValue("\u00c0.", "broken 0");
        checks.dueValue("\u00de.", "broken 0");
    }

    /** INTEGER: digits. */
    private static void anIntegerIsDigits(Checks checks) {
        for (char c = '0'; c <= '9'; c++) {
            checks.dueValue(c + ".", text(c));
            checks.dueValue("1" + c + ".", "1" + c);
        }
        checks.dueValue("0123456789.", "123456789");
        checks.dueValue("1/1.", "broken 1");
        checks.dueValue("1:1.", "broken 1");
        checks.dueValue("1_1.", "broken 1");
        checks.dueValue("1X.", "broken 1");
        checks.dueValue("1x.", "broken 1");
        checks.dueValue("1e5.", "broken 1");
        checks.dueValue("1'a'.", "broken 1");
        checks.dueValue("1.5.", "broken 1");
        checks.dueValue("1\u00b2.", "broken 1");
    }

    /** NAME: a letter a .. z. */
    private static void aNameBeginsWithASmallLetter(Checks checks) {
        for (char c = 'a'; c <= 'z'; c++) {
            checks.dueValue(c + ".", "error 2");
            checks.dueValue(c + "(1).", "error 2");
        }
        checks.dueValue("{.", "broken 0");
        checks.dueValue("\u00e0.", "broken 0");
        checks.dueValue("\u00ff.", "broken 0");
    }

    /** Then letters, digits, _ : what stands beside them ends the sign. */
    private static void wordsGoOnWithLettersDigitsAnd_(Checks checks) {
        ValueReckoner x = new ValueReckoner();
        String inside = "azAZ09_";
        checks.dueLet(x, "V" + inside + " is 1.", "1");
        checks.dueLet(x, "_" + inside + " is 2.", "2");
        for (int i = 0; i < inside.length(); i++) {
            checks.dueValue(x, "V" + inside.substring(0, i) + ".", "error 1");
        }
        checks.dueValue(x, "V" + inside + "+_" + inside + ".", "3");
        checks.dueValue("abs" + inside + "(1).", "error 2");
        checks.dueValue("7 mod_ 2.", "broken 2");
        checks.dueValue("7 mod2.", "broken 2");
        checks.dueValue("7 modX.", "broken 2");
        checks.dueValue("7mod 2.", "1");
        for (String beside : new String[] {"`", "{", "\u00e9", "\u0000", "\u007f", "\"", "[", "'a'", "!"}) {
            checks.dueValue("V" + beside + ".", "broken 1");
            checks.dueValue("v" + beside + ".", "broken 1");
        }
    }

    /** ' characters 32 .. 126. */
    private static void quotesHold32To126(Checks checks) {
        for (int c = 0; c <= 255; c++) {
            if (c != '\'') {
                boolean isHeld = c >= 32 && c <= 126;
                checks.dueValue(" 'a" + text(c) + "b'.", isHeld ? "error 2" : "broken 1");
                checks.dueValue(" '" + text(c) + "'.", isHeld ? "error 2" : "broken 1");
            }
        }
        checks.dueValue("''.", "error 2");
        checks.dueValue("'.", "broken 0");
        checks.dueValue("'", "broken 0");
        checks.dueValue("1+'", "broken 2");
    }

    /** ' which is '' in it. */
    private static void aDoubledQuoteIsOneInIt(Checks checks) {
        checks.dueValue("''''.", "error 2");
        checks.dueValue("'''.", "broken 0");
        checks.dueValue("'''", "broken 0");
        checks.dueValue("'''''.", "broken 0");
        checks.dueValue("'a''.", "broken 0");
        checks.dueValue("'a'''.", "error 2");
        checks.dueValue("'a' 'b'.", "broken 4");
        checks.dueValue("'a''b'(1).", "error 2");
        checks.dueValue("7 'mo''d' 2.", "broken 2");
        checks.dueValue("7 'mod''' 2.", "broken 2");
        checks.dueValue("7 'mod' 2.", "1");
    }

    /** As many of + - * / \ ^ < > = ~ : . ? @ # & $ as follow one another: one sign, and not the shorter one. */
    private static void aNameHasAsManySymbolsAsFollowOneAnother(Checks checks) {
        for (int i = 0; i < SYMBOLS.length(); i++) {
            char c = SYMBOLS.charAt(i);
            checks.dueValue("1 -" + c + " 2.", c == '>' ? "error 2" : "broken 2");
            checks.dueValue("1 *" + c + "+ 2.", "broken 2");
            checks.dueValue("f(" + c + c + c + ").", "error 2");
            checks.dueValue(c + "&(1,2).", "error 2");
        }
        checks.dueValue(SYMBOLS + "(1).", "error 2");
        checks.dueValue("1--1.", "broken 1");
        checks.dueValue("1- -1.", "2");
        checks.dueValue("8///2.", "broken 1");
        checks.dueHolds(new ValueReckoner(), "1=<2.", "true");
        checks.dueHolds(new ValueReckoner(), "1= <2.", "broken 4");
        checks.dueHolds(new ValueReckoner(), "1=:=-1.", "broken 1");
        checks.dueHolds(new ValueReckoner(), "-1=:= -1.", "true");
    }

    private static void otherCharactersAreNoSymbols(Checks checks) {
        for (int c = 33; c <= 255; c++) {
            boolean isWord = c >= 'a' && c <= 'z' || c >= 'A' && c <= 'Z' || c >= '0' && c <= '9' || c == '_';
            boolean opens = c == '(' || c == '[' || c == '%' || c == '!' || c == ';' || c == '\'';
            if (!isWord && !opens && SYMBOLS.indexOf(c) < 0) {
                checks.dueValue("1 -" + text(c) + " 2.", "broken 3");
            }
        }
        checks.dueValue("1 -! .", "error 2");
        checks.dueValue("1 -; .", "error 2");
    }

    /** A . followed by a blank, % or the end is END. */
    private static void aPointBeforeABlankOrCommentOrTheEndIsEnd(Checks checks) {
        checks.dueValue("7.", "7");
        for (int c = 0; c <= 255; c++) {
            checks.dueValue("7." + text(c), isBlank(c) || c == '%' ? "7" : "broken 1");
        }
        checks.dueValue("7 .", "7");
        checks.dueValue("7%\n.", "7");
        checks.dueValue("(7).", "7");
        checks.dueValue("'.'.", "error 2");
        checks.dueValue("7'.'", "broken 1");
    }

    /** If it stands alone. */
    private static void aPointThatDoesNotStandAloneIsNoEnd(Checks checks) {
        checks.dueValue("7..", "broken 1");
        checks.dueValue("7. .", "broken 3");
        checks.dueValue("a= =.", "broken 5");
        checks.dueValue("a= = .", "error 2");
        for (int i = 0; i < SYMBOLS.length(); i++) {
            checks.dueValue("f(1)" + SYMBOLS.charAt(i) + ".", "broken 4");
            checks.dueValue("f(1)." + SYMBOLS.charAt(i), "broken 4");
        }
        checks.dueValue("!.", "error 2");
        checks.dueValue("; .", "error 2");
        checks.dueValue(";.", "error 2");
        checks.dueValue("[].", "error 2");
    }

    /** Or ! or ; : each a NAME of its own, of one character. */
    private static void cutAndSemicolonStandAlone(Checks checks) {
        checks.dueValue("!!.", "broken 1");
        checks.dueValue("!;!.", "error 2");
        checks.dueValue("!+!.", "error 2");
        checks.dueValue("a;;.", "error 2");
        checks.dueValue("a;;b.", "broken 3");
        checks.dueValue(";;; .", "error 2");
        checks.dueValue(";=; .", "error 2");
        checks.dueValue(";(1,2).", "error 2");
    }

    /** [] with nothing between is a NAME, too. */
    private static void theEmptyListHasNothingBetween(Checks checks) {
        checks.dueValue("[].", "error 2");
        checks.dueValue("[ ].", "broken 2");
        checks.dueValue("[\n].", "broken 2");
        checks.dueValue("[%\n].", "broken 3");
        checks.dueValue("[](1).", "error 2");
        checks.dueValue("[] (1).", "broken 3");
        checks.dueValue("[]].", "broken 2");
        checks.dueValue("[", "broken 1");
    }

    /** A ( right behind a NAME, with nothing between, opens its TERMS. */
    private static void aParenthesisRightBehindANameOpensItsTerms(Checks checks) {
        checks.dueValue("abs(-1).", "1");
        for (String between : new String[] {" ", "\t", "\n", "\r", "%\n"}) {
            checks.dueValue("abs" + between + "(-1).", "broken " + (3 + between.length()));
            checks.dueValue("-" + between + "(3,4).", "error 2");
        }
        checks.dueValue("-(3,4).", "-1");
        checks.dueValue("'abs'(-1).", "1");
        checks.dueValue("+(3,4).", "7");
        checks.dueValue("!(1).", "error 2");
        checks.dueValue("X(1).", "broken 1");
        checks.dueValue("1(1).", "broken 1");
        checks.dueValue("(f)(1).", "broken 3");
        checks.dueValue("[1](1).", "broken 3");
        checks.dueValue("f(1)(1).", "broken 4");
    }

    /** A byte that begins no sign: there. */
    private static void bytesThatBeginNoSign(Checks checks) {
        for (int c = 0; c <= 255; c++) {
            boolean beginsNone = c < 32 && !isBlank(c) || c == '"' || c == '`' || c >= 127;
            if (beginsNone) {
                checks.dueValue(text(c), "broken 0");
                checks.dueValue("1 " + text(c) + " .", "broken 2");
                checks.dueValue("1 + " + text(c) + ".", "broken 4");
                checks.dueValue("- " + text(c) + ".", "broken 2");
                checks.dueValue("f( " + text(c) + ").", "broken 3");
                checks.dueValue("1. " + text(c), "broken 3");
            }
        }
    }
}

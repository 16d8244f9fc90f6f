/** The part "Terms": signs, operators, and where what is read is broken. */
public final class ReadingTest {
    public static void main(String[] args) {
        Checks checks = new Checks();
        signs(checks);
        ends(checks);
        quotes(checks);
        operators(checks);
        prefixes(checks);
        compounds(checks);
        lists(checks);
        depth(checks);
        symbols(checks);
        checks.finish();
    }

    private static String times(String text, int count) {
        return text.repeat(count);
    }

    private static void signs(Checks checks) {
        checks.dueValue("", "broken 0");
        checks.dueValue("   ", "broken 3");
        checks.dueValue("% a comment", "broken 11");
        checks.dueValue("\t\r\n %x\n 1 %y\n+%z\n2 .", "3");
        checks.dueValue("1 %.", "broken 4");
        checks.dueValue("\u000b1.", "broken 0");
        checks.dueValue("1\u0000.", "broken 1");
        checks.dueValue("1 \".", "broken 2");
        checks.dueValue("1+`.", "broken 2");
        checks.dueValue("1\u00e9.", "broken 1");
        checks.dueValue("{1}.", "broken 0");
        checks.dueValue("1+{.", "broken 2");
        checks.dueValue("(1}.", "broken 2");
        checks.dueValue("1a.", "broken 1");
        checks.dueValue("1 2.", "broken 2");
        checks.dueValue("a1_B.", "error 2");
        checks.dueValue("A1_b.", "error 1");
        checks.dueValue("a B.", "broken 2");
        checks.dueValue("X(1).", "broken 1");
        checks.dueValue("1(2).", "broken 1");
        checks.dueValue("!.", "error 2");
        checks.dueValue("!;!.", "error 2");
        checks.dueValue("!!.", "broken 1");
        checks.dueValue("!(1).", "error 2");
        checks.dueValue("1--1.", "broken 1");
        checks.dueValue("2*-3.", "broken 1");
        checks.dueValue("2* -3.", "-6");
        checks.dueValue("7/2.", "broken 1");
        checks.dueValue("#$&@?:^~.", "broken 9");
        checks.dueValue("#$&@?:^~ .", "error 2");
    }

    private static void ends(Checks checks) {
        checks.dueValue("1", "broken 1");
        checks.dueValue("1  ", "broken 3");
        checks.dueValue("1+2 % .", "broken 7");
        checks.dueValue(".", "broken 0");
        checks.dueValue(" . ", "broken 1");
        checks.dueValue("1 .", "1");
        checks.dueValue("1.\t", "1");
        checks.dueValue("1.\n", "1");
        checks.dueValue("1.\r", "1");
        checks.dueValue("1.%", "1");
        checks.dueValue("1.2.", "broken 1");
        checks.dueValue("1.\u0000", "broken 1");
        checks.dueValue("1..", "broken 1");
        checks.dueValue("a+.", "broken 1");
        checks.dueValue("a= +.", "broken 5");
        checks.dueValue("a+ .", "broken 3");
        checks.dueValue("(1 .", "broken 3");
        checks.dueValue("f(1. )", "broken 3");
        checks.dueValue("[1. ]", "broken 2");
        checks.dueValue(".(1,2).", "error 2");
        checks.dueValue("'.' .", "error 2");
        checks.dueValue("1'.'", "broken 1");
    }

    private static void quotes(Checks checks) {
        checks.dueValue("'a b'.", "error 2");
        checks.dueValue("'it''s'.", "error 2");
        checks.dueValue("''.", "error 2");
        checks.dueValue("''''.", "error 2");
        checks.dueValue("'''.", "broken 0");
        checks.dueValue("1+'abc.", "broken 2");
        checks.dueValue("1+'a\nb'.", "broken 2");
        checks.dueValue("1+'a\u007fb'.", "broken 2");
        checks.dueValue("1+'a\u00e9b'.", "broken 2");
        checks.dueValue("'%'.", "error 2");
        checks.dueValue("' ~'.", "error 2");
        checks.dueValue("'abs'(-1).", "1");
        checks.dueValue("'abs' (-1).", "broken 6");
        checks.dueValue("1 ',' 2.", "broken 2");
        checks.dueValue("'X'+1.", "error 2");
        checks.dueValue("'-' 3.", "-3");
    }

    private static void operators(Checks checks) {
        ValueReckoner x = new ValueReckoner();
        for (String op : new String[] {"=", "\\=", "==", "\\==", "is", "<", ">", "=<", ">=", "=:=", "=\\="}) {
            String text = "a " + op + " b ";
            checks.dueValue(text + ".", "error 2");
            checks.dueValue(text + "= c.", "broken " + text.length());
            checks.dueValue("f(" + text + "+c,d).", "error 2");
            checks.dueValue("a = b " + op + " c.", "broken 6");
        }
        checks.dueValue("a:-b,c->d;e.", "error 2");
        checks.dueValue("a:-b:-c.", "broken 4");
        checks.dueValue("(a:-b):-c.", "error 2");
        checks.dueValue("a->b->c.", "error 2");
        checks.dueValue("a;b;c.", "error 2");
        checks.dueValue("a;b:-c.", "error 2");
        checks.dueValue("f(a:-b).", "broken 3");
        checks.dueValue("f(a;b).", "broken 3");
        checks.dueValue("f(a->b).", "broken 3");
        checks.dueValue("f((a->b)).", "error 2");
        checks.dueValue("[a:-b].", "broken 2");
        checks.dueValue("[a|b:-c].", "broken 4");
        checks.dueValue("a|b.", "broken 1");
        checks.dueValue("(a|b).", "broken 2");
        checks.dueValue("= = = .", "error 2");
        checks.dueValue("= a.", "broken 2");
        checks.dueValue("+ + + .", "error 2");
        checks.dueValue("* 2.", "broken 2");
        checks.dueValue("mod 2.", "broken 4");
        checks.dueValue("f(+,-,mod,:-).", "error 2");
        checks.dueValue("[-,is|\\+].", "error 2");
        checks.dueValue("1 + * 2.", "broken 6");
        checks.dueValue("2 mod mod mod 3.", "error 2");
        checks.dueValue("1+.", "broken 1");
        checks.dueValue("1+ ", "broken 3");
        checks.dueValue("1,.", "broken 2");
        checks.dueValue(",.", "broken 0");
        checks.dueValue("a \\+ b.", "broken 2");
        checks.dueValue("2*3+4*5-6.", "20");
        checks.dueValue("100//5//2*3.", "30");
        checks.dueHolds(x, "1+1 < 2*2.", "true");
        checks.dueHolds(x, "(1 < 2).", "true");
        checks.dueHolds(x, "<(1,2).", "true");
    }

    private static void prefixes(Checks checks) {
        checks.dueValue("- .", "error 2");
        checks.dueValue("\\+ .", "error 2");
        checks.dueValue("-.", "broken 2");
        checks.dueValue("- - .", "error 2");
        checks.dueValue("- + 1.", "error 2");
        checks.dueValue("- * .", "broken 4");
        checks.dueValue("- mod(7,4).", "error 2");
        checks.dueValue("- =(1).", "error 2");
        checks.dueValue("- =(1,2) a.", "broken 9");
        checks.dueValue("- mod .", "broken 6");
        checks.dueValue("- abs(-2).", "-2");
        checks.dueValue("- -(2).", "2");
        checks.dueValue("- (2).", "-2");
        checks.dueValue("- (1,2).", "error 2");
        checks.dueValue("- 2 mod 3.", "1");
        checks.dueValue("-2 mod 3.", "1");
        checks.dueValue("- [].", "error 2");
        checks.dueValue("- ! .", "error 2");
        checks.dueValue("- , 1.", "error 2");
        checks.dueValue("(- ) .", "error 2");
        checks.dueValue("f(- , \\+ ).", "error 2");
        checks.dueValue("[- |a].", "error 2");
        checks.dueValue("\\+ a = b.", "error 2");
        checks.dueValue("\\+ \\+ a.", "error 2");
        checks.dueValue("\\+ a , b.", "error 2");
        checks.dueValue("\\+ a :- b.", "error 2");
        checks.dueValue("a = \\+ b.", "broken 7");
        checks.dueValue("a = \\+ (b).", "broken 7");
        checks.dueValue("a = \\+(b).", "error 2");
        checks.dueValue("a = \\+ .", "error 2");
        checks.dueValue("a = \\+ = b.", "broken 7");
        checks.dueValue("- \\+ a.", "broken 5");
        checks.dueValue("1 + \\+ + 2.", "error 2");
        checks.dueValue("a , \\+ b.", "error 2");
        checks.dueValue("f(\\+ a).", "error 2");
        checks.dueValue("-(a:-b).", "broken 3");
        checks.dueValue("- (a:-b).", "error 2");
        checks.dueValue("-().", "broken 2");
        checks.dueValue("- ).", "broken 2");
        checks.dueValue("- }", "broken 2");
        checks.dueValue("- 9007199254740992.", "broken 2");
        checks.dueValue("- ", "broken 2");
    }

    private static void compounds(Checks checks) {
        checks.dueValue("f(1,2,3,4,5,6,7,8).", "error 2");
        checks.dueValue("f(1,2,3,4,5,6,7,8,9).", "broken 18");
        checks.dueValue("f(1,2,3,4,5,6,7,8, ).", "broken 19");
        checks.dueValue("f(1,2,3,4,5,6,7,8,", "broken 18");
        checks.dueValue("f((1,2,3,4,5,6,7,8,9)).", "error 2");
        checks.dueValue("f().", "broken 2");
        checks.dueValue("f( ).", "broken 3");
        checks.dueValue("f(1,).", "broken 4");
        checks.dueValue("f(,1).", "broken 2");
        checks.dueValue("f(1 2).", "broken 4");
        checks.dueValue("f(1].", "broken 3");
        checks.dueValue("f(1|2).", "broken 3");
        checks.dueValue("f(1", "broken 3");
        checks.dueValue("f (1).", "broken 2");
        checks.dueValue("f%\n(1).", "broken 3");
        checks.dueValue("f(1)(2).", "broken 4");
        checks.dueValue("f(g(1),h(2,3)).", "error 2");
        checks.dueValue("().", "broken 1");
        checks.dueValue("(1)).", "broken 3");
        checks.dueValue("((1).", "broken 4");
        checks.dueValue("(1 2).", "broken 3");
        checks.dueValue("((1),2).", "error 2");
        checks.dueValue(").", "broken 0");
        checks.dueValue("min( 1 , max( 2 , 3 ) ).", "1");
    }

    private static void lists(Checks checks) {
        checks.dueValue("[1,2|3].", "error 2");
        checks.dueValue("[1,2,3,4,5,6,7,8,9,10].", "error 2");
        checks.dueValue("[ ].", "broken 2");
        checks.dueValue("[%\n].", "broken 3");
        checks.dueValue("[](1).", "error 2");
        checks.dueValue("[] (1).", "broken 3");
        checks.dueValue("[1](2).", "broken 3");
        checks.dueValue("[,1].", "broken 1");
        checks.dueValue("[|1].", "broken 1");
        checks.dueValue("[1,].", "broken 3");
        checks.dueValue("[1|].", "broken 3");
        checks.dueValue("[1|2|3].", "broken 4");
        checks.dueValue("[1|2,3].", "broken 4");
        checks.dueValue("[1 2].", "broken 3");
        checks.dueValue("[1).", "broken 2");
        checks.dueValue("[1", "broken 2");
        checks.dueValue("].", "broken 0");
        checks.dueValue("[1]].", "broken 3");
        checks.dueValue("[[],[[]]].", "error 2");
    }

    private static void depth(Checks checks) {
        checks.dueValue(times("(", 99) + "1" + times(")", 99) + ".", "1");
        checks.dueValue(times("(", 100) + "1" + times(")", 100) + ".", "broken 100");
        checks.dueValue(times("( ", 100) + "  1.", "broken 202");
        checks.dueValue(times("(", 101), "broken 100");
        checks.dueValue(times("(", 100), "broken 100");
        checks.dueValue(times("- ", 99) + "1.", "-1");
        checks.dueValue(times("- ", 100) + "1.", "broken 200");
        checks.dueValue(times("- ", 99) + "-1.", "1");
        checks.dueValue(times("(", 99) + "-1" + times(")", 99) + ".", "-1");
        checks.dueValue(times("(", 99) + "- 1" + times(")", 99) + ".", "broken 101");
        checks.dueValue(times("(", 99) + "1+2" + times(")", 99) + ".", "broken 101");
        checks.dueValue(times("(", 98) + "1+2*3" + times(")", 98) + ".", "broken 102");
        checks.dueValue(times("(", 98) + "1*2+3" + times(")", 98) + ".", "5");
        checks.dueValue(times("abs(", 99) + "-1" + times(")", 99) + ".", "1");
        checks.dueValue(times("abs(", 100) + "-1" + times(")", 100) + ".", "broken 400");
        checks.dueValue(times("[", 99) + "1" + times("]", 99) + ".", "error 2");
        checks.dueValue(times("[", 100) + "1" + times("]", 100) + ".", "broken 100");
        checks.dueValue(times("[1|", 99) + "1" + times("]", 99) + ".", "error 2");
        checks.dueValue(times("[1|", 100) + "1" + times("]", 100) + ".", "broken 298");
        checks.dueValue(times("1,", 99) + "1.", "error 2");
        checks.dueValue(times("1,", 100) + "1.", "broken 200");
        checks.dueValue(times("1+", 300) + "1.", "301");
        checks.dueValue("[" + times("(1),", 300) + "(1)].", "error 2");
    }

    private static void symbols(Checks checks) {
        checks.dueValue("0" + times("+1", 499) + ".", "499");
        checks.dueValue("0" + times("+1", 499) + "- 1.", "broken 0");
        checks.dueValue("- 0" + times("+1", 499) + ".", "499");
        checks.dueValue("- (- 0" + times("+1", 499) + ").", "broken 0");
        checks.dueValue(" %x\n  0" + times("+1", 500) + ".", "broken 6");
        checks.dueValue("-0" + times("+ -1", 499) + ".", "-499");
        checks.dueValue("0" + times("+1", 500) + ". 1", "broken 1003");
        checks.dueValue("0" + times("+1", 500) + " 1.", "broken 1002");
        checks.dueValue("0" + times("+1", 500) + "", "broken 1001");
        checks.dueValue("[1" + times(",1", 498) + "].", "error 2");
        checks.dueValue("[1" + times(",1", 499) + "].", "broken 0");
        checks.dueValue("[1" + times(",1", 498) + "|X].", "error 2");
        checks.dueValue("-[1" + times(",1", 498) + "|X].", "error 2");
        checks.dueValue("- - [1" + times(",1", 498) + "|X].", "broken 0");
        checks.dueValue("f([1" + times(",1", 498) + "]).", "error 2");
        checks.dueValue("f([1" + times(",1", 498) + "],a).", "broken 0");
        checks.dueValue(" f(f([1" + times(",1", 498) + "])).", "broken 1");
        checks.dueValue("[[]" + times(",[]", 498) + "].", "error 2");
        checks.dueValue("[_" + times(",_", 499) + "].", "broken 0");
        checks.dueValue(" [" + times("1,", 2040) + "1].", "broken 1");
        ValueReckoner x = new ValueReckoner();
        checks.due("a long text", Checks.value(x, "0" + times("+1", 400) + "."), "400");
        checks.due("a second long text", Checks.value(x, "0" + times("+1", 400) + "."), "400");
        checks.dueLet(new ValueReckoner(), "X is 0" + times("+1", 498) + ".", "1");
        checks.dueLet(new ValueReckoner(), " X is 0" + times("+1", 499) + ".", "broken 1");
        checks.dueHolds(new ValueReckoner(), " 1 < 0" + times("+1", 499) + ".", "broken 1");
        checks.dueHolds(new ValueReckoner(), " 1 =:= 0" + times("+1", 498) + ".", "false");
    }
}

/** The boundary cases that, of the terms, code, the standard form and the words on exceptions name. */
public final class CodeBoundaryTest {
    private static final Check check = new Check("CodeBoundaryTest");
    private static final String CODE = "Terms, code";
    private static final String FORM = "Terms, the standard form";
    private static final Class<IllegalStateException> STATE = IllegalStateException.class;
    private static final Class<IllegalArgumentException> ARGUMENT = IllegalArgumentException.class;
    private static final Class<IndexOutOfBoundsException> INDEX = IndexOutOfBoundsException.class;

    public static void main(String[] args) {
        constants();
        costs();
        needOfLeaves();
        needAtLeastOne();
        needOfTheSame();
        needOfOthers();
        instructionsOfWritings();
        instructionsOfSteps();
        instructionsOfAllThatIsDone();
        registers();
        registersWithoutAny();
        formWithoutBlanks();
        formWithoutZeros();
        formOfTables();
        firstNamed();
        changesNothing();
        check.end();
    }

    /** The cost and the need of an expression, seen in a step with four state words; in one turn of i and j. */
    private static void expression(String expression, int cost, int need) {
        CipherNotation x = Check.running("16:4:1;{>1;}{i1[j1[A^=" + expression + ";]]}");
        check.due("the cost of " + expression, x.number(6) - 2 - 1, cost);
        check.due("the need of " + expression, x.number(7) - 4, Math.max(1, need));
        // without the WRITING that S(0) takes, whose own need is 1
        CipherNotation alone = Check.running("16:4:1;{}{i1[j1[A^=" + expression.replace("S(0)", "K(0)") + ";]]}");
        check.due("the need of " + expression + " alone", alone.number(7) - 4, need);
    }

    private static void constants() {
        check.sentence(CODE,
            "An expression that has no STATE, K or S in it is CONSTANT. Its COST is 1 if it is constant");
        expression("0", 1, 1);
        expression("65535", 1, 1);
        expression("i", 1, 1);
        expression("j", 1, 1);
        expression("~0", 1, 1);
        expression("(1<15)", 1, 1);
        expression("(1+2)", 1, 1);
        expression("((i+j)*(3-~4))", 1, 1);
        expression("~".repeat(12) + "1", 1, 1);
        expression("(1^".repeat(12) + "i" + ")".repeat(12), 1, 1);
        // what is constant counts once, as a part too
        expression("(B+((i+j)*(3-~4)))", 2, 1);
        expression("(((i+j)*(3-~4))+B)", 2, 1);
    }

    private static void costs() {
        check.sentence(CODE, "else 0 for a STATE, 1 for K or S, and 1 more than its parts' together for ~, < and OP.");
        expression("B", 0, 0);
        expression("D", 0, 0);
        expression("K(0)", 1, 1);
        expression("S(0)", 1, 1);
        expression("K(0i+0j+0)", 1, 1);
        expression("~B", 1, 1);
        expression("~K(0)", 2, 1);
        expression("(B<0)", 1, 1);
        expression("(S(0)<1)", 2, 1);
        expression("~".repeat(12) + "B", 12, 1);
        for (String sign : new String[] {"^", "&", "|", "+", "-", "*"}) {
            expression("(B" + sign + "C)", 1, 1);
            expression("(B" + sign + "1)", 2, 1);
            expression("(K(0)" + sign + "S(0))", 3, 2);
            expression("(~B" + sign + "(C<3))", 3, 2);
        }
        expression("(B^".repeat(12) + "C" + ")".repeat(12), 12, 1);
    }

    private static void needOfLeaves() {
        check.sentence(CODE, "Its NEED is 1 if it is constant, else 0 for a STATE, 1 for K or S");
        expression("B", 0, 0);
        expression("5", 1, 1);
        expression("i", 1, 1);
        expression("(5+(5+(5+5)))", 1, 1);
        expression("((5+5)+(5+5))", 1, 1);
        expression("K(0)", 1, 1);
        expression("S(0)", 1, 1);
    }

    private static void needAtLeastOne() {
        check.sentence(CODE, "for ~ and < that of its part, but at least 1");
        expression("~B", 1, 1);
        expression("(B<1)", 1, 1);
        expression("~~B", 2, 1);
        expression("~K(0)", 2, 1);
        expression("(K(0)<1)", 2, 1);
        expression("~(K(0)+1)", 4, 2);
        expression("((K(0)+1)<1)", 4, 2);
    }

    private static void needOfTheSame() {
        check.sentence(CODE, "for OP the greater one of its parts', and one more than that if both are the same.");
        expression("(B+C)", 1, 1);
        expression("(K(0)+1)", 3, 2);
        expression("(1+K(0))", 3, 2);
        expression("((B+C)+(C+B))", 3, 2);
        expression("((K(0)+1)+(1+K(0)))", 7, 3);
        expression("(((K(0)+1)+(1+K(0)))+((K(0)+1)+(1+K(0))))", 15, 4);
    }

    private static void needOfOthers() {
        check.sentence(CODE, "for OP the greater one of its parts'");
        expression("(B+1)", 2, 1);
        expression("(1+B)", 2, 1);
        expression("((K(0)+1)+1)", 5, 2);
        expression("(1+(K(0)+1))", 5, 2);
        expression("((K(0)+1)+B)", 4, 2);
        expression("(B+(K(0)+1))", 4, 2);
        expression("(K(0)+".repeat(12) + "K(0)" + ")".repeat(12), 25, 2);
    }

    private static void instructions(String text, int due) {
        check.due("number(6) of " + text, Check.running(text).number(6), due);
    }

    private static void instructionsOfWritings() {
        check.sentence(CODE,
            "The INSTRUCTIONS of a WRITING, or of a step with an expression, are 1 more than its cost");
        instructions("8:2:1;{>1;}{}", 2);
        instructions("8:2:1;{>K(0);}{}", 2);
        instructions("8:2:1;{>~K(0);}{}", 3);
        instructions("8:2:1;{}{A^=B;}", 1);
        instructions("8:2:1;{}{A+=1;}", 2);
        instructions("8:2:1;{}{A-=~~B;}", 3);
    }

    private static void instructionsOfSteps() {
        check.sentence(CODE, "those of any other step 1");
        for (String step : new String[] {"A*=255;", "A<7;", "A<B;", "A:B;", "A:A;", "A#0;", "A@1;", "A@1,2,3,4,5;"}) {
            instructions("8:2:1;#*1+0;{}{" + step + "}", 1);
        }
    }

    private static void instructionsOfAllThatIsDone() {
        check.sentence(CODE, "those of the code are those of all that is done.");
        instructions("8:2:1;{}{}", 0);
        instructions("8:2:1;{i16[j16[]]}{i16[j16[]]}", 0);
        instructions("8:2:1;{i1[>1;]}{i1[A<1;]}", 3);
        instructions("8:2:1;{i16[>1;j1[>K(0);]]}{}", 64);
        instructions("8:2:1;{}{i16[j16[A<1;]]}", 256);
        instructions("8:2:1;{}{i16[A<1;j4[A^=~B;]A<1;]}", 160);
        instructions("8:2:1;{i16[j2[>1;]]}{i16[j16[A<1;]]i16[j5[A<1;]]}", 400);
    }

    private static void registers(String text, int due) {
        check.due("number(7) of " + text, Check.running(text).number(7), due);
    }

    private static void registers() {
        check.sentence(CODE, "Its REGISTERS are the state words and the greatest need of any expression");
        for (int states = 2; states <= 4; states++) {
            String head = "8:" + states + ":1;";
            registers(head + "{}{A^=B;}", states);
            registers(head + "{>1;}{A^=B;}", states + 1);
            registers(head + "{>(K(0)+1);}{A^=B;A^=1;}", states + 2);
            registers(head + "{>1;}{A^=B;i2[j2[A^=(K(0)+1);]A^=1;]A^=B;}", states + 2);
            registers(head + "{>(K(0)+1);>1;}{}", states + 2);
        }
    }

    private static void registersWithoutAny() {
        check.sentence(CODE, "(0 without any).");
        for (int states = 2; states <= 4; states++) {
            registers("8:" + states + ":4;{}{}", states);
            registers("8:" + states + ":4;#*1+0;{}{A<1;A<B;A*=3;A:B;A#0;A@1,2,3;i16[]}", states);
        }
    }

    private static void form(String due, String text) {
        check.due("the form of " + text, Check.form(Check.running(text)), due);
    }

    private static void formWithoutBlanks() {
        check.sentence(FORM, "without blanks");
        form("8:2:1;{}{}", "8:2:1;{}{}");
        form("8:2:1;{}{}", "   8 : 2 : 1 ; { } { }   ");
        form("8:2:1;{}{}", " ".repeat(115) + "8:2:1;{}{}" + " ".repeat(115));
        form("8:2:1;{>K(0);i2[]}{A^=(B+1);A@1,2,3;}",
            "8:2:1;{> K ( 0 ) ; i 2 [ ] }{A ^ = ( B + 1 ) ; A @ 1 , 2 , 3 ; }");
    }

    private static void formWithoutZeros() {
        check.sentence(FORM, "numbers without zeros in front");
        form("8:2:1;{}{}", "000000008:02:001;{}{}");
        form("8:2:1;{>0;}{}", "8:2:1;{>0;}{}");
        form("8:2:1;{>0;}{}", "8:2:1;{>000000000;}{}");
        form("8:2:1;{>10;>100;>(101<0);}{}", "8:2:1;{>010;>0100;>(000101<00);}{}");
        form("64:2:1;{>999999999;>100000000;>1000;}{}", "64:2:1;{>999999999;>100000000;>001000;}{}");
        form("8:2:1;{i1[>K(0);>K(0i+0+10i);]}{}", "8:2:1;{i01[>K(00);>K(00i+0+010i);]}{}");
        form("8:2:1;#0123456789abcdef;{}{j10[A#0;A*=1;A<0;A@0,1,2;]}",
            "8:2:1;#*1+0;{}{j0010[A#00;A*=01;A<000;A@00,01,002;]}");
    }

    private static void formOfTables() {
        check.sentence(FORM, "tables as sixteen characters.");
        form("8:2:1;#0123456789abcdef;{}{}", "8:2:1;#*1+0;{}{}");
        form("8:2:1;#0000000000000000;#ffffffffffffffff;{}{}", "8:2:1;#*0+0;#*00+015;{}{}");
        form("8:2:1;#fedcba9876543210;#000123456789abcd;{}{}", "8:2:1;#*15+15;#0 0 0123456789 abcd;{}{}");
        form("8:2:1;#000000000000000f;#f000000000000000;{}{}", "8:2:1;#000000000000000f;#f000000000000000;{}{}");
        form("8:2:1;#0123456789abcdef;#1234567890123456;{}{}", "8:2:1;#*1+0;#1234567890123456;{}{}");
        String rest = "{}{A<10;B<1;" + "A<1;".repeat(52) + "}";
        form("32:2:1;#0123456789abcdef;#0369cf258be147ad;" + rest, "32:2:1;#*1+0;#*3+0;" + rest);
    }

    private static void firstNamed() {
        check.sentence("Terms", "Methods throw what their comments name, the one named first when several would do");
        CipherNotation none = new CipherNotation();
        check.refuses("number(8)", STATE, () -> none.number(8));
        check.refuses("table(0, 16, false)", STATE, () -> none.table(0, 16, false));
        check.refuses("key(4, -1)", STATE, () -> none.key(4, -1));
        check.refuses("state(4, -1)", STATE, () -> none.state(4, -1));
        check.refuses("keyWord(4)", STATE, () -> none.keyWord(4));
        check.refuses("word(4)", STATE, () -> none.word(4));
        check.refuses("subkey(32)", STATE, () -> none.subkey(32));
        check.refuses("apply(-1, 1)", STATE, () -> none.apply(-1, 1));
        CipherNotation x = Check.running("8:2:1;{}{}");
        check.refuses("key(1, 256)", INDEX, () -> x.key(1, 256));
        check.refuses("key(-1, -1)", INDEX, () -> x.key(-1, -1));
        check.refuses("key(0, 256)", ARGUMENT, () -> x.key(0, 256));
        check.refuses("state(2, 256)", INDEX, () -> x.state(2, 256));
        check.refuses("state(-1, -1)", INDEX, () -> x.state(-1, -1));
        check.refuses("state(1, 256)", ARGUMENT, () -> x.state(1, 256));
    }

    private static void changesNothing() {
        check.sentence("Terms", "a call that throws changes nothing.");
        CipherNotation x = Check.running("8:2:2;#*3+1;{>K(1);}{A+=S(0);B+=1;}");
        x.key(0, 11);
        x.key(1, 12);
        x.state(0, 13);
        x.state(1, 14);
        x.write('x');
        String before = Check.picture(x);
        check.refuses("number(8)", ARGUMENT, () -> x.number(8));
        check.refuses("table(1, 0, false)", INDEX, () -> x.table(1, 0, false));
        check.refuses("key(1, 256)", ARGUMENT, () -> x.key(1, 256));
        check.refuses("key(2, 1)", INDEX, () -> x.key(2, 1));
        check.refuses("state(1, 256)", ARGUMENT, () -> x.state(1, 256));
        check.refuses("state(1, -1)", ARGUMENT, () -> x.state(1, -1));
        check.refuses("state(2, 1)", INDEX, () -> x.state(2, 1));
        check.refuses("keyWord(2)", INDEX, () -> x.keyWord(2));
        check.refuses("word(2)", INDEX, () -> x.word(2));
        check.refuses("subkey(1)", INDEX, () -> x.subkey(1));
        check.refuses("apply(0, 3)", ARGUMENT, () -> x.apply(0, 3));
        check.refuses("apply(3, 0)", ARGUMENT, () -> x.apply(3, 0));
        check.refuses("apply(2, -1)", ARGUMENT, () -> x.apply(2, -1));
        check.due("the object then", Check.picture(x), before);
        CipherNotation none = new CipherNotation();
        none.write('8');
        check.refuses("encrypt()", STATE, none::encrypt);
        check.refuses("decrypt()", STATE, none::decrypt);
        check.refuses("apply(0, 0)", STATE, () -> none.apply(0, 0));
        check.due("the text then", none.write(0), 1);
        check.due("place() then", none.place(), CipherNotation.NONE);
        check.due("print(0) then", none.print(0), CipherNotation.NONE);
    }
}

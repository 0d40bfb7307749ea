/** The promises one by one: ordinary calls, the edges that the document names, and wrong calls. */
public final class PromiseTest {
    private static final Check check = new Check("PromiseTest");
    private static final int NONE = CipherNotation.NONE;
    private static final String CIPHER = "16:2:4;{i4[>(K(i)+(i*40503));]}{i4[A+=(S(i)^(B<3));B^=((A<5)+S(3));A:B;]}";
    private static final Class<IllegalStateException> STATE = IllegalStateException.class;
    private static final Class<IllegalArgumentException> ARGUMENT = IllegalArgumentException.class;
    private static final Class<IndexOutOfBoundsException> INDEX = IndexOutOfBoundsException.class;

    public static void main(String[] args) {
        newObject();
        write();
        wipe();
        compile();
        place();
        number();
        numberOfCode();
        print();
        table();
        key();
        state();
        keyWordAndWord();
        subkey();
        encrypt();
        decrypt();
        apply();
        check.end();
    }

    private static void newObject() {
        check.due("NONE", NONE, -1);
        CipherNotation x = new CipherNotation();
        check.due("write(0)", x.write(0), 0);
        check.due("place()", x.place(), NONE);
        check.due("print(0)", x.print(0), NONE);
        // with no program this is what is thrown, whatever else would be wrong
        check.refuses("number(9)", STATE, () -> x.number(9));
        check.refuses("table(9, 0, true)", STATE, () -> x.table(9, 0, true));
        check.refuses("key(9, -1)", STATE, () -> x.key(9, -1));
        check.refuses("state(9, -1)", STATE, () -> x.state(9, -1));
        check.refuses("keyWord(9)", STATE, () -> x.keyWord(9));
        check.refuses("word(9)", STATE, () -> x.word(9));
        check.refuses("subkey(9)", STATE, () -> x.subkey(9));
        check.refuses("encrypt()", STATE, x::encrypt);
        check.refuses("decrypt()", STATE, x::decrypt);
        check.refuses("apply(9, -9)", STATE, () -> x.apply(9, -9));
        check.due("wipe()", x.wipe(), 0);
    }

    private static void write() {
        CipherNotation x = new CipherNotation();
        check.due("write of eight", x.write(Check.packed("16:2:1;{")), 8);
        check.due("write with zeros between", x.write((long) '}' << 56 | (long) '{' << 24 | '}'), 11);
        check.due("compile() of what was written, the lowest byte first", x.compile(), 0);
        check.due("write(0)", x.write(0), 11);
        for (int wrong : new int[] {1, 31, 127, 128, 255}) {
            for (int shift = 0; shift < 64; shift += 8) {
                long others = 0x2020202020202020L & ~(255L << shift);
                check.due("write with byte " + wrong, x.write((long) wrong << shift | others), NONE);
                check.due("write with byte " + wrong + " alone", x.write((long) wrong << shift), NONE);
            }
        }
        check.due("write of the edges", x.write(' ' | '~' << 8), 13);
        x.wipe();
        Check.write(x, " ".repeat(239));
        check.due("write of two where one has room", x.write(Check.packed("  ")), NONE);
        check.due("write(0) at 239", x.write(0), 239);
        check.due("write of the last", x.write(' '), 240);
        check.due("write(0) at 240", x.write(0), 240);
        check.due("write of one more", x.write(' '), NONE);
        check.due("wipe()", x.wipe(), 240);
    }

    private static void wipe() {
        CipherNotation x = new CipherNotation();
        Check.write(x, "16:2:1;{}{}");
        check.due("compile()", x.compile(), 0);
        check.due("wipe()", x.wipe(), 11);
        check.due("wipe() again", x.wipe(), 0);
        check.due("the program stays", x.number(0), 16);
        check.due("the form stays", Check.form(x), "16:2:1;{}{}");
        check.due("place() stays", x.place(), NONE);
        check.due("write behind wipe()", x.write('8'), 1);
    }

    private static void compile() {
        CipherNotation x = Check.running(CIPHER);
        x.key(0, 5);
        x.state(1, 6);
        check.due("compile() of the same text", x.compile(), 0);
        check.due("a key word then", x.keyWord(0), 0);
        check.due("a state word then", x.word(1), 0);
        check.due("the text stays", x.write(0), CIPHER.length());
        x.write('x');
        check.due("compile() of a text with a fault", x.compile(), 1);
        check.due("that text stays too", x.write(0), CIPHER.length() + 1);
        check.due("compile() of words of another width", Check.compile(x, "8:4:1;{}{D+=K(0);}"), 0);
        x.key(0, 255);
        x.state(3, 2);
        x.encrypt();
        check.due("D + 255", x.word(3), 1);
        for (int i = 0; i < 4; i++) {
            x.state(i, 9);
        }
        check.due("compile() again", x.compile(), 0);
        for (int i = 0; i < 4; i++) {
            check.due("a state word behind compile()", x.word(i), 0);
        }
        Check.compile(x, CIPHER);
        for (int i = 0; i < 4; i++) {
            x.key(i, 9);
        }
        check.due("compile() again", x.compile(), 0);
        for (int i = 0; i < 4; i++) {
            check.due("a key word behind compile()", x.keyWord(i), 0);
        }
        longTexts();
        manyTexts();
    }

    /** All calls that an object is made for, each with as much to read as there may be. */
    private static void manyTexts() {
        CipherNotation x = new CipherNotation();
        Check.write(x, "8:2:1;{}{" + "A^=~~~~~~~~~~~~B;".repeat(13) + "A<1; }");
        for (int n = 0; n < 470; n++) {
            check.due("compile() of a long text", x.compile(), 0);
        }
        check.due("its steps", x.number(5), 14);
    }

    private static void longTexts() {
        CipherNotation x = new CipherNotation();
        String loops = "16:2:1;{}{" + "i1[j1[]]".repeat(28) + "}";
        check.due("compile() of loops of nothing", Check.compile(x, loops), 0);
        check.due("its steps", x.number(5), 0);
        check.due("its form", Check.form(x), loops);
        String writings = "8:2:1;{" + ">1;".repeat(77) + "}";
        check.due("compile() of a text of 240", Check.compile(x, (writings + "{").substring(0, 239)), 1);
        check.due("its place", x.place(), 239);
        String steps = "8:2:1;{}{" + "A<1;".repeat(57) + " }";
        check.due("compile() of many steps", Check.compile(x, steps), 0);
        check.due("their number", x.number(5), 57);
        String full = "8:2:1;{}{i4[j1[" + "A:B;".repeat(55) + "]] }";
        check.due("its length", full.length(), 239);
        check.due("compile() of many steps in loops", Check.compile(x, full), 0);
        check.due("their number", x.number(5), 220);
        String lines = "8:2:1;{}{" + "i1[j1[A<1;]]".repeat(19) + "}";
        check.due("compile() of steps in loops of their own", Check.compile(x, lines), 0);
        check.due("their number", x.number(5), 19);
        String deep = "(B^".repeat(12) + "B" + ")".repeat(12);
        check.due("compile() of deep brackets", Check.compile(x, "8:2:1;{}{A^=" + deep + ";}"), 0);
        x.state(1, 129);
        x.encrypt();
        check.due("thirteen times ^", x.word(0), 129);
    }

    private static void place() {
        CipherNotation x = new CipherNotation();
        check.due("place() of a new object", x.place(), NONE);
        check.due("compile() of a fault", Check.compile(x, "16:2:1;{}{A<16;}"), 3);
        check.due("place()", x.place(), 12);
        x.wipe();
        Check.write(x, "16:2:1;{}{}");
        check.due("place() before the next compile()", x.place(), 12);
        x.compile();
        check.due("place() behind no fault", x.place(), NONE);
        Check.compile(x, "16:2:1;{}{A<16;}");
        check.due("compile() of code 6", Check.compile(x, "16:2:1;{}{i16[j16[A<1;A<1;]]}"), 6);
        check.due("place() of code 6", x.place(), NONE);
    }

    private static void number() {
        CipherNotation x = Check.running("32:3:2;#*1+0;{>K(0);>K(1);>3;}{A<1;i4[j3[B^=~C;]C:A;]}");
        int[] due = {32, 3, 2, 1, 3, 17, 35, 4};
        for (int what = 0; what < due.length; what++) {
            check.due("number(" + what + ")", x.number(what), due[what]);
        }
        check.refuses("number(8)", ARGUMENT, () -> x.number(8));
        check.refuses("number(-1)", ARGUMENT, () -> x.number(-1));
        check.refuses("number(least)", ARGUMENT, () -> x.number(Integer.MIN_VALUE));
        check.due("tables", Check.running("8:2:1;#*1+0;#*2+0;{}{}").number(3), 2);
    }

    /** The instructions and registers of one step A^= with an expression, with four state words. */
    private static void code(String expression, int instructions, int registers) {
        CipherNotation x = new CipherNotation();
        check.due("compile() of " + expression, Check.compile(x, "16:4:1;{}{i1[A^=" + expression + ";]}"), 0);
        check.due("instructions of " + expression, x.number(6), instructions);
        check.due("registers of " + expression, x.number(7), registers);
    }

    private static void numberOfCode() {
        code("B", 1, 4);
        code("5", 2, 5);
        code("i", 2, 5);
        code("K(0)", 2, 5);
        code("~(~5+(i*(3<2)))", 2, 5);
        code("~B", 2, 5);
        code("(B<3)", 2, 5);
        code("~~(B<3)", 4, 5);
        code("~K(0)", 3, 5);
        code("(B^C)", 2, 5);
        code("(B^5)", 3, 5);
        code("(5^B)", 3, 5);
        code("(K(0)^B)", 3, 5);
        code("(K(0)^(3+i))", 4, 6);
        code("((B^C)^(C^D))", 4, 6);
        code("(((B^C)^(C^D))^B)", 5, 6);
        code("((K(0)^1)^(K(0)^1))", 8, 7);
        code("(((K(0)^1)^(K(0)^1))^(B^~1))", 11, 7);
        check.due("a WRITING", Check.running("8:2:1;{>K(0);}{}").number(6), 2);
        check.due("registers of a WRITING", Check.running("8:2:1;{>(K(0)^1);}{A^=B;}").number(7), 4);
        check.due("registers without expressions", Check.running("8:3:1;{}{A<1;}").number(7), 3);
        for (String step : new String[] {"A*=3", "A<3", "A<B", "A:B", "A#0", "A@1,2,3"}) {
            check.due("instructions of " + step, Check.running("8:2:1;#*1+0;{}{" + step + ";}").number(6), 1);
            check.due("registers of " + step, Check.running("8:2:1;#*1+0;{}{" + step + ";}").number(7), 2);
        }
    }

    private static void print() {
        String[][] forms = {
            {"16:2:1;{}{}", " 016 : 2:000000001 ; { } { } "},
            {"8:2:1;#0123456789abcdef;{}{}", "8:2:1;#*001+0;{}{}"},
            {"8:2:1;#369cf258be147ad0;#0000000000000000;{}{A#0;}", "8:2:1;#*3+3;# 00000000 00000000;{}{A#00;}"},
            {"8:2:1;#3333333333333333;{}{}", "8:2:1;#*0+3;{}{}"},
            {"8:2:1;#f7f7f7f7f7f7f7f7;#0f0f0f0f0f0f0f0f;{}{}", "8:2:1;#*8+15;#0f0f0f0f0f0f0f0f;{}{}"},
            {"8:2:1;{i2[>K(0i+0);]}{A^=(100<0);A@0,1,2;}",
                "08:02:01;{i02[>K(00i+000);]}{A^=(0100<00);A@00,01,02;}"},
            {"64:2:1;{}{A^=100200300;A+=B;A-=1;A*=10001;A<B;A<10;}",
                "64:2:1;{}{A^ =100200300;A+ =B;A- =01;A* =010001;A<B;A<010;}"},
        };
        for (String[] form : forms) {
            CipherNotation x = Check.running(form[1]);
            check.due("the form of " + form[1], Check.form(x), form[0]);
            check.due("print(-1)", x.print(-1), NONE);
            check.due("print behind the form", x.print(form[0].length()), NONE);
            check.due("print far off", x.print(Integer.MAX_VALUE), NONE);
            check.due("print far below", x.print(Integer.MIN_VALUE), NONE);
        }
        String longest = "32:2:1;#*1+0;#*3+0;{}{A<10;B<1;" + "A<1;".repeat(52) + "}";
        CipherNotation x = Check.running(longest);
        check.due("the length of the longest text", longest.length(), 240);
        check.due("the length of the longest form", Check.form(x).length(), 264);
        x.wipe();
        check.due("print(0) without a text", x.print(0), '3');
    }

    private static void table() {
        CipherNotation x = Check.running("8:2:1;#63f1b2c4d5e7980a;#*6+15;{}{}");
        int[] first = {6, 3, 15, 1, 11, 2, 12, 4, 13, 5, 14, 7, 9, 8, 0, 10};
        for (int i = 0; i < 16; i++) {
            check.due("table(0, " + i + ", false)", x.table(0, i, false), first[i]);
            check.due("table(0, " + first[i] + ", true)", x.table(0, first[i], true), i);
            check.due("table(1, " + i + ", false)", x.table(1, i, false), (6 * i + 15) % 16);
            check.due("table(1, " + i + ", true)", x.table(1, i, true), i % 2 == 0 ? NONE : least(i));
        }
        check.refuses("table(2, 0, false)", INDEX, () -> x.table(2, 0, false));
        check.refuses("table(-1, 0, true)", INDEX, () -> x.table(-1, 0, true));
        check.refuses("table(0, 16, true)", INDEX, () -> x.table(0, 16, true));
        check.refuses("table(0, -1, false)", INDEX, () -> x.table(0, -1, false));
        check.refuses("table(most, 0, false)", INDEX, () -> x.table(Integer.MAX_VALUE, 0, false));
        Check.compile(x, "8:2:1;#*1+1;{}{}");
        check.due("table(0, 15, false) of the next program", x.table(0, 15, false), 0);
        check.refuses("table(1, 0, false) of the next program", INDEX, () -> x.table(1, 0, false));
    }

    private static int least(int entry) {
        int i = 0;
        while ((6 * i + 15) % 16 != entry) {
            i++;
        }
        return i;
    }

    private static void key() {
        for (int width = 8; width <= 32; width *= 2) {
            CipherNotation x = Check.running(width + ":2:3;{}{}");
            long most = (1L << width) - 1;
            check.due("key(2, most)", x.key(2, most), 0);
            check.due("key(2, 7)", x.key(2, 7), most);
            check.refuses("key(2, most + 1)", ARGUMENT, () -> x.key(2, most + 1));
            check.refuses("key(2, -1)", ARGUMENT, () -> x.key(2, -1));
            check.refuses("key(2, least)", ARGUMENT, () -> x.key(2, Long.MIN_VALUE));
            check.refuses("key(3, -1)", INDEX, () -> x.key(3, -1));
            check.refuses("key(-1, 0)", INDEX, () -> x.key(-1, 0));
            check.due("keyWord(2)", x.keyWord(2), 7);
            check.due("keyWord(1)", x.keyWord(1), 0);
            check.due("word(1)", x.word(1), 0);
        }
        CipherNotation x = Check.running("64:2:4;{}{}");
        check.due("key(3, -1)", x.key(3, -1), 0);
        check.due("key(3, least)", x.key(3, Long.MIN_VALUE), -1);
        check.due("key(3, 0)", x.key(3, 0), Long.MIN_VALUE);
    }

    private static void state() {
        for (int width = 8; width <= 32; width *= 2) {
            CipherNotation x = Check.running(width + ":3:1;{}{}");
            long most = (1L << width) - 1;
            check.due("state(2, most)", x.state(2, most), 0);
            check.due("state(2, 7)", x.state(2, 7), most);
            check.refuses("state(2, most + 1)", ARGUMENT, () -> x.state(2, most + 1));
            check.refuses("state(2, -1)", ARGUMENT, () -> x.state(2, -1));
            check.refuses("state(3, -1)", INDEX, () -> x.state(3, -1));
            check.refuses("state(-1, 0)", INDEX, () -> x.state(-1, 0));
            check.due("word(2)", x.word(2), 7);
            check.due("word(1)", x.word(1), 0);
            check.due("keyWord(0)", x.keyWord(0), 0);
        }
        CipherNotation x = Check.running("64:4:1;{}{}");
        check.due("state(3, -1)", x.state(3, -1), 0);
        check.due("state(3, 0)", x.state(3, 0), -1);
    }

    private static void keyWordAndWord() {
        CipherNotation x = Check.running("8:2:4;{}{}");
        for (int i = 0; i < 4; i++) {
            x.key(i, 10 + i);
        }
        x.state(0, 20);
        x.state(1, 21);
        for (int i = 0; i < 4; i++) {
            check.due("keyWord(" + i + ")", x.keyWord(i), 10 + i);
        }
        check.due("word(0)", x.word(0), 20);
        check.due("word(1)", x.word(1), 21);
        check.refuses("keyWord(4)", INDEX, () -> x.keyWord(4));
        check.refuses("keyWord(-1)", INDEX, () -> x.keyWord(-1));
        check.refuses("word(2)", INDEX, () -> x.word(2));
        check.refuses("word(-1)", INDEX, () -> x.word(-1));
    }

    private static void subkey() {
        CipherNotation x = Check.running("8:2:2;{>K(0);i3[>(S(i)+i);j2[>(S(3i+j)*K(1));]]}{}");
        x.key(0, 200);
        x.key(1, 3);
        long[] due = new long[10];
        due[0] = 200;
        int n = 1;
        for (int i = 0; i < 3; i++) {
            due[n++] = due[i] + i & 255;
            for (int j = 0; j < 2; j++) {
                due[n++] = due[3 * i + j] * 3 & 255;
            }
        }
        for (int i = 0; i < 10; i++) {
            check.due("subkey(" + i + ")", x.subkey(i), due[i]);
        }
        check.refuses("subkey(10)", INDEX, () -> x.subkey(10));
        check.refuses("subkey(-1)", INDEX, () -> x.subkey(-1));
        x.key(0, 1);
        check.due("subkey(0) with another key", x.subkey(0), 1);
        CipherNotation none = Check.running("8:2:2;{}{}");
        check.refuses("subkey(0) of none", INDEX, () -> none.subkey(0));
        CipherNotation all = Check.running("64:2:1;{i16[j2[>(~K(0)-(i+(16*j)));]]}{}");
        check.due("subkey(31)", all.subkey(31), -1L - 31);
        check.refuses("subkey(32)", INDEX, () -> all.subkey(32));
    }

    private static void encrypt() {
        CipherNotation x = Check.running("8:2:1;{>K(0);}{A^=S(0);i3[A+=i;]B-=A;}");
        x.key(0, 240);
        x.state(0, 15);
        check.due("encrypt()", x.encrypt(), 11);
        check.due("A", x.word(0), 2);
        check.due("B", x.word(1), 254);
        x.key(0, 0);
        x.encrypt();
        check.due("A with another key", x.word(0), 5);
        check.due("keyWord(0) stays", x.keyWord(0), 0);
        CipherNotation none = Check.running("8:2:1;{>K(0);}{}");
        check.due("encrypt() of no step", none.encrypt(), 2);
        check.due("encrypt() of nothing", Check.running("8:2:1;{}{}").encrypt(), 0);
        check.due("decrypt() of nothing", Check.running("8:2:1;{}{}").decrypt(), 0);
    }

    private static void decrypt() {
        CipherNotation x = Check.running(CIPHER);
        for (int i = 0; i < 4; i++) {
            x.key(i, 40000 + 1234 * i);
        }
        x.state(0, 65535);
        x.state(1, 1);
        check.due("decrypt()", x.decrypt(), 52);
        check.due("decrypt() changes A", x.word(0) == 65535 ? 1 : 0, 0);
        check.due("encrypt()", x.encrypt(), 52);
        check.due("A", x.word(0), 65535);
        check.due("B", x.word(1), 1);
        x.encrypt();
        x.key(2, 5);
        x.decrypt();
        check.due("decrypt() with another key", x.word(0) == 65535 && x.word(1) == 1 ? 1 : 0, 0);
    }

    private static void apply() {
        CipherNotation x = Check.running("16:2:1;{>K(0);}{A+=1;i3[A+=(10*i);j2[B+=j;]]A*=3;A+=S(0);}");
        x.key(0, 1000);
        check.due("steps", x.number(5), 12);
        check.due("apply(0, 0)", x.apply(0, 0), 0);
        check.due("apply(12, 12)", x.apply(12, 12), 0);
        check.due("apply(0, 5)", x.apply(0, 5), 5);
        check.due("A", x.word(0), 11);
        check.due("B", x.word(1), 1);
        check.due("apply(5, 12)", x.apply(5, 12), 7);
        check.due("A", x.word(0), 31 * 3 + 1000);
        check.due("B", x.word(1), 3);
        check.due("apply(12, 10)", x.apply(12, 10), 2);
        check.due("A", x.word(0), 31);
        check.due("apply(10, 1)", x.apply(10, 1), 9);
        check.due("A", x.word(0), 1);
        check.due("B", x.word(1), 0);
        check.due("apply(11, 12)", x.apply(11, 12), 1);
        check.due("A", x.word(0), 1001);
        x.key(0, 1);
        check.due("apply(12, 11) with another key", x.apply(12, 11), 1);
        check.due("A", x.word(0), 1000);
        int[][] wrong = {{-1, 0}, {0, -1}, {13, 0}, {0, 13}, {13, 13}, {-1, -1},
            {Integer.MIN_VALUE, Integer.MAX_VALUE}, {Integer.MAX_VALUE, 0}};
        for (int[] steps : wrong) {
            check.refuses("apply(" + steps[0] + ", " + steps[1] + ")", ARGUMENT, () -> x.apply(steps[0], steps[1]));
        }
        check.due("A behind wrong calls", x.word(0), 1000);
        CipherNotation none = Check.running("8:2:1;{}{}");
        check.due("apply(0, 0) of no step", none.apply(0, 0), 0);
        check.refuses("apply(0, 1) of no step", ARGUMENT, () -> none.apply(0, 1));
    }
}

/** The boundary cases that the promises 1 to 16 name, a method for each sentence. */
public final class CallBoundaryTest {
    private static final Check check = new Check("CallBoundaryTest");
    private static final int NONE = CipherNotation.NONE;
    private static final int LEAST = Integer.MIN_VALUE;
    private static final int MOST = Integer.MAX_VALUE;
    private static final int[] WIDTHS = {8, 16, 32, 64};
    private static final String SMALL = "8:2:1;{}{}";
    /** A text for each code of a fault, from 0 on. */
    private static final String[] BY_CODE = {"16:2:1;{}{}", "16:2:1;{}{", "9:2:1;{}{}", "16:2:1;{>65536;}{}",
        "16:2:1;{>A;}{}", "16:2:1;{}{A^=A;}", "16:2:1;{i11[j3[>1;]]}{}"};
    private static final int[] PLACES = {NONE, 10, 0, 9, 9, 10, NONE};
    /** Texts that leave much behind: loops open, LETTERS, tables, subkeys, faults of several kinds. */
    private static final String[] ONE_BEHIND_ANOTHER = {"", SMALL, "16:2:4;{i4[>(K(i)+(j*3));j4[", "16:2:4;{}{A^=i;}",
        "16:2:4;{i0[j4[>1;]]}{}", "16:2:1;{>1;>S(0);}{A^=S(1);}", "16:2:4;{i4[j1[>K(i+j);]]}{",
        "64:2:4;{i4[>K(i);]}{j2[A+=j;]}", "64:2:1;{i4[j4[>5;>(6+K(0));]]}{A+=S(31);}", "8:2:1;{i16[j16[>1;]]}{}",
        "8:3:1;#*3+0;{>K(0);}{A#0;B+=(S(0)+1);C^=(B-7);}", "8:2:1;#*1+0;#*2+0;#"};
    private static final Class<IllegalStateException> STATE = IllegalStateException.class;
    private static final Class<IllegalArgumentException> ARGUMENT = IllegalArgumentException.class;
    private static final Class<IndexOutOfBoundsException> INDEX = IndexOutOfBoundsException.class;

    public static void main(String[] args) {
        newObject();
        writeOrder();
        writeZeros();
        writeCount();
        writeWrongBytes();
        writeTooMany();
        wipeEmpty();
        wipeCount();
        compileAgain();
        compileOneBehindAnother();
        compileFaults();
        compileKeepsText();
        placeOfFaults();
        placeOfNone();
        numberEdges();
        numberWrong();
        printEdges();
        printWhateverTheText();
        printWithoutProgram();
        tableEdges();
        tableBack();
        tableWrong();
        keyEdges();
        keyWrong();
        stateEdges();
        stateWrong();
        keyWordEdges();
        wordEdges();
        subkeyEdges();
        subkeyWithTheKeyWords();
        subkeyWrong();
        encryptAnew();
        encryptNothing();
        decryptLastFirst();
        decryptAnswers();
        applyEdges();
        applyBack();
        applyNone();
        applyWrong();
        check.end();
    }

    private static void newObject() {
        check.sentence("Promise 1: A new object", "An empty text, no program.");
        CipherNotation x = new CipherNotation();
        check.due("write(0)", x.write(0), 0);
        check.due("wipe()", x.wipe(), 0);
        check.due("place()", x.place(), NONE);
        check.due("print(0)", x.print(0), NONE);
        withoutProgram(x);
        check.due("compile()", x.compile(), 1);
        check.due("place() then", x.place(), 0);
        withoutProgram(x);
        // a text that is not read yet is no program, nor is one with a fault
        Check.write(x, SMALL);
        withoutProgram(x);
        x.write('x');
        check.due("compile() of a fault", x.compile(), 1);
        withoutProgram(x);
    }

    private static void withoutProgram(CipherNotation x) {
        for (int what = 0; what < 8; what++) {
            int number = what;
            check.refuses("number(" + what + ")", STATE, () -> x.number(number));
        }
        check.refuses("table(0, 0, false)", STATE, () -> x.table(0, 0, false));
        check.refuses("table(0, 0, true)", STATE, () -> x.table(0, 0, true));
        check.refuses("key(0, 0)", STATE, () -> x.key(0, 0));
        check.refuses("state(0, 0)", STATE, () -> x.state(0, 0));
        check.refuses("keyWord(0)", STATE, () -> x.keyWord(0));
        check.refuses("word(0)", STATE, () -> x.word(0));
        check.refuses("subkey(0)", STATE, () -> x.subkey(0));
        check.refuses("encrypt()", STATE, x::encrypt);
        check.refuses("decrypt()", STATE, x::decrypt);
        check.refuses("apply(0, 0)", STATE, () -> x.apply(0, 0));
        check.due("print(0)", x.print(0), NONE);
    }

    private static void writeOrder() {
        check.sentence("Promise 2: write",
            "The characters in the eight bytes of a long, the lowest first, come behind the text");
        CipherNotation x = new CipherNotation();
        // '1' is 0x31, and so on: 16:2:1;{ with its first character in the lowest byte
        check.due("write of eight", x.write(0x7B3B313A323A3631L), 8);
        check.due("write of three", x.write(0x7D7B7DL), 11);
        check.due("compile()", x.compile(), 0);
        check.due("the form", Check.form(x), "16:2:1;{}{}");
        CipherNotation back = new CipherNotation();
        back.write(0x31363A323A313B7BL);
        back.write(0x7D7B7DL);
        check.due("compile() of the same from behind", back.compile(), 1);
    }

    private static void writeZeros() {
        check.sentence("Promise 2: write", "bytes 0 are left out.");
        CipherNotation x = new CipherNotation();
        check.due("write(0) into an empty text", x.write(0), 0);
        String text = "16:2:1;{}{}";
        for (int i = 0; i < text.length(); i++) {
            check.due("write of one in byte " + i % 8, x.write((long) text.charAt(i) << i % 8 * 8), i + 1);
            check.due("write(0)", x.write(0), i + 1);
        }
        check.due("compile()", x.compile(), 0);
        check.due("the form", Check.form(x), text);
        x.wipe();
        check.due("write with zeros between", x.write(0x3A00360031L), 3);
        check.due("write with zeros around", x.write(0x003A003200000000L), 5);
        check.due("write with zeros below", x.write(0x7D7B7D7B3B310000L), 11);
        check.due("compile()", x.compile(), 0);
        check.due("the form", Check.form(x), text);
    }

    private static void writeCount() {
        check.sentence("Promise 2: write", "Answers how many characters it has then");
        CipherNotation x = new CipherNotation();
        for (int n = 1; n <= 30; n++) {
            check.due("write of eight, time " + n, x.write(0x2020202020202020L), 8 * n);
        }
        x.wipe();
        for (int n = 1; n <= 240; n++) {
            check.due("write of one, time " + n, x.write('~'), n);
        }
    }

    private static void writeWrongBytes() {
        check.sentence("Promise 2: write", "NONE, adding none, when another byte is not 32 .. 126");
        for (int code = 1; code < 256; code++) {
            boolean isWrong = code < 32 || code > 126;
            CipherNotation x = new CipherNotation();
            Check.write(x, SMALL);
            int length = 10;
            for (int shift = 0; shift < 64; shift += 8) {
                long others = 0x2020202020202020L & ~(255L << shift);
                length += isWrong ? 0 : 9;
                check.due("write of " + code + " in byte " + shift / 8, x.write((long) code << shift | others),
                    isWrong ? NONE : length - 1);
                check.due("write of " + code + " in byte " + shift / 8 + " alone", x.write((long) code << shift),
                    isWrong ? NONE : length);
                check.due("write(0)", x.write(0), length);
            }
            check.due("compile()", x.compile(), isWrong || code == 32 ? 0 : 1);
        }
        CipherNotation x = new CipherNotation();
        check.due("write(-1)", x.write(-1), NONE);
        check.due("write(least)", x.write(Long.MIN_VALUE), NONE);
        check.due("write(0)", x.write(0), 0);
    }

    private static void writeTooMany() {
        check.sentence("Promise 2: write",
            "NONE, adding none, when another byte is not 32 .. 126, or there would be more than 240.");
        for (int count = 1; count <= 8; count++) {
            String characters = "xxxxxxxx".substring(0, count);
            CipherNotation x = new CipherNotation();
            Check.write(x, SMALL + " ".repeat(231 - count));
            check.due("write of " + count + " with room for one less", x.write(Check.packed(characters)), NONE);
            check.due("write(0)", x.write(0), 241 - count);
            check.due("compile() of the same text", x.compile(), 0);
            Check.compile(x, SMALL + " ".repeat(230 - count));
            check.due("write of " + count + " with room for them", x.write(Check.packed(characters)), 240);
            check.due("compile() with them", x.compile(), 1);
            check.due("its place", x.place(), 240 - count);
            check.due("write(0) at 240", x.write(0), 240);
            check.due("write of one more", x.write((long) 'x' << 56), NONE);
            check.due("write of a wrong byte", x.write(127), NONE);
        }
    }

    private static void wipeEmpty() {
        check.sentence("Promise 3: wipe", "The text is empty then.");
        CipherNotation x = Check.running(SMALL);
        x.wipe();
        check.due("write(0)", x.write(0), 0);
        check.due("compile()", x.compile(), 1);
        check.due("place()", x.place(), 0);
        check.due("the program stays", x.number(0), 8);
        Check.write(x, "x".repeat(240));
        x.wipe();
        check.due("there is room again", Check.write(x, " ".repeat(230) + SMALL), 240);
        check.due("compile() of what is written then", x.compile(), 0);
    }

    private static void wipeCount() {
        check.sentence("Promise 3: wipe", "Answers how many characters it had.");
        CipherNotation x = new CipherNotation();
        check.due("wipe() of a new object", x.wipe(), 0);
        x.write(' ');
        check.due("wipe() of one", x.wipe(), 1);
        check.due("wipe() again", x.wipe(), 0);
        Check.write(x, " ".repeat(240));
        x.write(' ');
        check.due("wipe() of 240", x.wipe(), 240);
    }

    private static void compileAgain() {
        check.sentence("Promise 4: compile",
            "Reads the text: 0 when it has no fault, and it is the PROGRAM from then on, all key words "
            + "and state words being 0");
        CipherNotation x = Check.running("64:4:4;{}{}");
        for (int n = 0; n < 3; n++) {
            for (int i = 0; i < 4; i++) {
                check.due("key word " + i, x.key(i, -1 - i), 0);
                check.due("state word " + i, x.state(i, Long.MIN_VALUE + i), 0);
            }
            check.due("compile() of the same text", x.compile(), 0);
        }
        for (int i = 0; i < 4; i++) {
            x.key(i, -1);
            x.state(i, -1);
        }
        check.due("compile() of another text", Check.compile(x, "8:2:1;{>K(0);}{A+=1;}"), 0);
        check.due("its width", x.number(0), 8);
        check.due("its subkey", x.subkey(0), 0);
        check.due("its key word", x.keyWord(0), 0);
        check.due("its state word", x.word(1), 0);
        check.due("compile() of the first text", Check.compile(x, "64:4:4;{}{}"), 0);
        for (int i = 0; i < 4; i++) {
            check.due("key word " + i + " at last", x.keyWord(i), 0);
            check.due("state word " + i + " at last", x.word(i), 0);
        }
    }

    /** All that can be seen when a text is read and run. */
    private static String answers(CipherNotation x, String text) {
        StringBuilder answers = new StringBuilder();
        int code = Check.compile(x, text);
        answers.append(code).append(' ').append(x.place());
        if (code == 0) {
            x.key(0, 21);
            answers.append(' ').append(x.encrypt()).append(' ').append(Check.picture(x));
        }
        return answers.toString();
    }

    private static void compileOneBehindAnother() {
        check.sentence("Promise 4: compile",
            "Reads the text: 0 when it has no fault, and it is the PROGRAM from then on", "nothing of texts before it");
        for (String last : ONE_BEHIND_ANOTHER) {
            String due = answers(new CipherNotation(), last);
            for (String first : ONE_BEHIND_ANOTHER) {
                for (String second : ONE_BEHIND_ANOTHER) {
                    CipherNotation x = new CipherNotation();
                    Check.compile(x, first);
                    Check.compile(x, second);
                    check.due(last + " behind " + first + " and " + second, answers(x, last), due);
                }
            }
        }
    }

    private static void compileFaults() {
        check.sentence("Promise 4: compile",
            "otherwise the fault's code, and the program, if there is one, stays with its words as "
            + "they were.");
        for (int code = 1; code <= 6; code++) {
            CipherNotation none = new CipherNotation();
            check.due("compile() of " + BY_CODE[code], Check.compile(none, BY_CODE[code]), code);
            check.refuses("number(0)", STATE, () -> none.number(0));
            check.due("print(0)", none.print(0), NONE);
            CipherNotation x = Check.running("8:3:2;#*3+1;#*2+0;{>K(1);>5;}{A^=S(0);i2[B+=S(i);]}");
            x.key(1, 77);
            x.state(2, 99);
            String before = withoutText(Check.picture(x));
            check.due("compile() of " + BY_CODE[code], Check.compile(x, BY_CODE[code]), code);
            check.due("the program then", withoutText(Check.picture(x)), before);
            check.due("its table", x.table(0, 5, false), 0);
            check.due("its other table", x.table(1, 0, true), 0);
            x.encrypt();
            check.due("A", x.word(0), 77);
            check.due("B", x.word(1), 82);
        }
    }

    /** A picture without the text's length and the place, which another text changes. */
    private static String withoutText(String picture) {
        return picture.substring(picture.indexOf("8:3:2"));
    }

    private static void compileKeepsText() {
        check.sentence("Promise 4: compile", "(The text stays.)");
        for (int code = 0; code <= 6; code++) {
            CipherNotation x = new CipherNotation();
            Check.write(x, BY_CODE[code]);
            for (int n = 0; n < 3; n++) {
                check.due("compile(), time " + n, x.compile(), code);
                check.due("place(), time " + n, x.place(), PLACES[code]);
                check.due("the length, time " + n, x.write(0), BY_CODE[code].length());
            }
        }
        CipherNotation x = new CipherNotation();
        Check.write(x, "8:2:1;{}{");
        check.due("compile() of a beginning", x.compile(), 1);
        x.write('}');
        check.due("compile() of the whole", x.compile(), 0);
        x.write('}');
        check.due("compile() of more", x.compile(), 1);
        check.due("place() of more", x.place(), 10);
    }

    private static void placeOfFaults() {
        check.sentence("Promise 5: place", "The place of the fault that compile() told last");
        CipherNotation x = new CipherNotation();
        for (int code = 1; code <= 5; code++) {
            Check.compile(x, BY_CODE[code]);
            check.due("place() of " + BY_CODE[code], x.place(), PLACES[code]);
            check.due("place() again", x.place(), PLACES[code]);
            x.wipe();
            x.write('x');
            check.due("place() before the next compile()", x.place(), PLACES[code]);
        }
        Check.compile(x, " ".repeat(240));
        check.due("place() behind all characters", x.place(), 240);
        x.wipe();
        x.compile();
        check.due("place() of an empty text", x.place(), 0);
    }

    private static void placeOfNone() {
        check.sentence("Promise 5: place", "NONE when it told none, or code 6, or was never called.");
        CipherNotation x = new CipherNotation();
        check.due("place() of a new object", x.place(), NONE);
        Check.write(x, "x");
        check.due("place() of a text that is not read", x.place(), NONE);
        for (int code : new int[] {0, 6}) {
            Check.compile(x, BY_CODE[3]);
            check.due("place() of a fault", x.place(), PLACES[3]);
            Check.compile(x, BY_CODE[code]);
            check.due("place() of code " + code, x.place(), NONE);
        }
    }

    private static void numberEdges() {
        check.sentence("Promise 6: number",
            "Of the program: its width (0), state words (1), key words (2), tables (3), subkeys (4), "
            + "steps (5), instructions (6), registers (7).");
        String four = "(((K(0)+1)+(1+K(0)))+((K(0)+1)+(1+K(0))))";
        String[] texts = {SMALL, "64:4:4;#*1+0;#*1+0;{i16[j2[>1;]]}{i16[j4[A^=~1;]]A^=" + four + ";i16[j12[A:B;]]}"};
        int[][] due = {{8, 2, 1, 0, 0, 0, 0, 2}, {64, 4, 4, 2, 32, 64 + 1 + 192, 64 + 128 + 16 + 192, 8}};
        for (int n = 0; n < texts.length; n++) {
            CipherNotation x = Check.running(texts[n]);
            for (int what = 0; what < 8; what++) {
                check.due("number(" + what + ") of " + texts[n], x.number(what), due[n][what]);
            }
        }
    }

    private static void numberWrong() {
        check.sentence("Promise 6: number",
            "IllegalStateException: there is no program; IllegalArgumentException: another what.");
        CipherNotation x = Check.running(SMALL);
        CipherNotation none = new CipherNotation();
        for (int what : new int[] {-1, 8, LEAST, MOST}) {
            check.refuses("number(" + what + ")", ARGUMENT, () -> x.number(what));
            check.refuses("number(" + what + ") without a program", STATE, () -> none.number(what));
        }
        for (int what = 0; what < 8; what++) {
            int number = what;
            check.refuses("number(" + what + ") without a program", STATE, () -> none.number(number));
        }
    }

    private static void printEdges() {
        check.sentence("Promise 7: print", "Character i of the standard form of the program");
        CipherNotation x = Check.running(SMALL);
        check.due("print(0)", x.print(0), '8');
        check.due("print(9)", x.print(9), '}');
        check.due("print(10)", x.print(10), NONE);
        check.due("print(-1)", x.print(-1), NONE);
        check.due("print(least)", x.print(LEAST), NONE);
        check.due("print(most)", x.print(MOST), NONE);
        // two tables of six characters make the form 24 longer than a text of 240
        CipherNotation all = Check.running("32:2:1;#*1+0;#*3+0;{}{A<10;B<1;" + "A<1;".repeat(52) + "}");
        check.due("print(263)", all.print(263), '}');
        check.due("print(262)", all.print(262), ';');
        check.due("print(264)", all.print(264), NONE);
    }

    private static void printWhateverTheText() {
        check.sentence("Promise 7: print", "(whatever the text is now)");
        CipherNotation x = Check.running(" 08 :2:1;{}{}");
        x.write('x');
        check.due("the form behind write()", Check.form(x), SMALL);
        x.compile();
        check.due("the form behind a fault", Check.form(x), SMALL);
        x.wipe();
        check.due("the form behind wipe()", Check.form(x), SMALL);
        x.compile();
        check.due("the form behind an empty text", Check.form(x), SMALL);
        Check.write(x, "16:4:4;#*1+0;{>1;}{A<1;}");
        check.due("the form before compile()", Check.form(x), SMALL);
        x.compile();
        check.due("the form behind it", Check.form(x), "16:4:4;#0123456789abcdef;{>1;}{A<1;}");
        Check.compile(x, SMALL);
        check.due("the form of a shorter one", Check.form(x), SMALL);
        check.due("print(10) then", x.print(10), NONE);
    }

    private static void printWithoutProgram() {
        check.sentence("Promise 7: print", "NONE when it has none, or there is no program.");
        CipherNotation x = new CipherNotation();
        Check.write(x, SMALL);
        for (int i : new int[] {0, 1, -1, 9, 263, LEAST, MOST}) {
            check.due("print(" + i + ") without a program", x.print(i), NONE);
        }
        x.write('x');
        x.compile();
        check.due("print(0) behind a fault", x.print(0), NONE);
    }

    private static void tableEdges() {
        check.sentence("Promise 8: table", "Entry i of a table of the program");
        CipherNotation x = Check.running("8:2:1;#f123456789abcde0;#*15+15;{}{}");
        check.due("table(0, 0, false)", x.table(0, 0, false), 15);
        check.due("table(0, 1, false)", x.table(0, 1, false), 1);
        check.due("table(0, 15, false)", x.table(0, 15, false), 0);
        check.due("table(1, 0, false)", x.table(1, 0, false), 15);
        check.due("table(1, 1, false)", x.table(1, 1, false), 14);
        check.due("table(1, 15, false)", x.table(1, 15, false), 0);
        Check.compile(x, "8:2:1;#*16+0;{}{}");
        check.due("table(0, 0, false) behind a fault", x.table(0, 0, false), 15);
        Check.compile(x, "8:2:1;#*1+1;{}{}");
        check.due("table(0, 15, false) of the next program", x.table(0, 15, false), 0);
    }

    private static void tableBack() {
        check.sentence("Promise 8: table",
            "with back, the i' for which the table has i (NONE when there is none, the least one when "
            + "there are several).");
        CipherNotation x = Check.running("8:2:1;#0000000000000000;#ffffffffffffffff;{}{}");
        for (int i = 0; i < 16; i++) {
            check.due("table(0, " + i + ", true)", x.table(0, i, true), i == 0 ? 0 : NONE);
            check.due("table(1, " + i + ", true)", x.table(1, i, true), i == 15 ? 0 : NONE);
        }
        CipherNotation y = Check.running("8:2:1;#fedcba9876543210;#1234567812345670;{}{}");
        for (int i = 0; i < 16; i++) {
            check.due("table(0, " + i + ", true) of another", y.table(0, i, true), 15 - i);
            check.due("table(1, " + i + ", true) of another", y.table(1, i, true), i == 0 ? 15 : i <= 8 ? i - 1 : NONE);
        }
        Check.compile(y, "8:2:1;#0123456789abcdee;{}{}");
        check.due("table(0, 14, true) of the next", y.table(0, 14, true), 14);
        check.due("table(0, 15, true) of the next", y.table(0, 15, true), NONE);
    }

    private static void tableWrong() {
        check.sentence("Promise 8: table",
            "IllegalStateException: there is no program; IndexOutOfBoundsException: no such table, or "
            + "i is not 0 .. 15.");
        String[] tables = {"", "#*1+0;", "#*1+0;#*1+0;"};
        CipherNotation none = new CipherNotation();
        for (int count = 0; count <= 2; count++) {
            CipherNotation x = Check.running("8:2:1;" + tables[count] + "{}{}");
            for (boolean back : new boolean[] {false, true}) {
                for (int t : new int[] {-1, count, LEAST, MOST}) {
                    check.refuses("table(" + t + ", 0) of " + count, INDEX, () -> x.table(t, 0, back));
                    check.refuses("table(" + t + ", 0) of no program", STATE, () -> none.table(t, 0, back));
                }
                for (int i : new int[] {-1, 16, LEAST, MOST}) {
                    check.refuses("table(0, " + i + ") of " + count, INDEX, () -> x.table(0, i, back));
                    check.refuses("table(0, " + i + ") of no program", STATE, () -> none.table(0, i, back));
                }
            }
        }
        CipherNotation x = Check.running("8:2:1;#*1+0;#*1+0;{}{}");
        Check.compile(x, "8:2:1;#*1+0;{}{}");
        check.refuses("table(1, 0, false) when the program before had it", INDEX, () -> x.table(1, 0, false));
    }

    private static void keyEdges() {
        check.sentence("Promise 9: key", "Key word i becomes x: what it was.");
        for (int width : WIDTHS) {
            CipherNotation x = Check.running(width + ":4:4;{}{}");
            long top = Check.top(width);
            for (int i = 0; i < 4; i++) {
                check.due("key(" + i + ", top)", x.key(i, top), 0);
                check.due("key(" + i + ", 0)", x.key(i, 0), top);
                check.due("key(" + i + ", " + (10 + i) + ")", x.key(i, 10 + i), 0);
            }
            for (int i = 0; i < 4; i++) {
                check.due("keyWord(" + i + ")", x.keyWord(i), 10 + i);
                check.due("word(" + i + "), which stays", x.word(i), 0);
            }
        }
    }

    private static void keyWrong() {
        check.sentence("Promise 9: key",
            "IllegalStateException: there is no program; IndexOutOfBoundsException: no such key word; "
            + "IllegalArgumentException: x is not 0 .. 2 to the w, less 1 (no long is wrong for w = 64).");
        CipherNotation none = new CipherNotation();
        check.refuses("key(0, 0) without a program", STATE, () -> none.key(0, 0));
        check.refuses("key(-1, -1) without a program", STATE, () -> none.key(-1, -1));
        for (int keys = 1; keys <= 4; keys++) {
            CipherNotation x = Check.running("8:2:" + keys + ";{}{}");
            for (int i : new int[] {-1, keys, LEAST, MOST}) {
                check.refuses("key(" + i + ", 0) of " + keys, INDEX, () -> x.key(i, 0));
                check.refuses("key(" + i + ", 256) of " + keys, INDEX, () -> x.key(i, 256));
            }
            check.due("key(" + (keys - 1) + ", 255)", x.key(keys - 1, 255), 0);
        }
        for (int width = 8; width < 64; width *= 2) {
            CipherNotation x = Check.running(width + ":2:1;{}{}");
            for (long wrong : wrongWords(width)) {
                check.refuses("key(0, " + wrong + ") with " + width + " bits", ARGUMENT, () -> x.key(0, wrong));
            }
            check.due("key(0, top)", x.key(0, Check.top(width)), 0);
        }
        CipherNotation x = Check.running("64:2:1;{}{}");
        long was = 0;
        for (long word : new long[] {-1, Long.MIN_VALUE, Long.MAX_VALUE, 1L << 32, 0}) {
            check.due("key(0, " + word + ") with 64 bits", x.key(0, word), was);
            was = word;
        }
    }

    private static long[] wrongWords(int width) {
        return new long[] {1L << width, (1L << width) + 1, -1, -Check.top(width), Long.MIN_VALUE, Long.MAX_VALUE};
    }

    private static void stateEdges() {
        check.sentence("Promise 10: state", "State word i (A is 0) becomes x: what it was.");
        for (int width : WIDTHS) {
            CipherNotation x = Check.running(width + ":4:4;{}{}");
            long top = Check.top(width);
            for (int i = 0; i < 4; i++) {
                check.due("state(" + i + ", top)", x.state(i, top), 0);
                check.due("state(" + i + ", 0)", x.state(i, 0), top);
                check.due("state(" + i + ", " + (20 + i) + ")", x.state(i, 20 + i), 0);
            }
            for (int i = 0; i < 4; i++) {
                check.due("word(" + i + ")", x.word(i), 20 + i);
                check.due("keyWord(" + i + "), which stays", x.keyWord(i), 0);
            }
        }
        CipherNotation names = Check.running("8:4:1;{}{A+=1;B+=2;C+=3;D+=4;}");
        names.encrypt();
        for (int i = 0; i < 4; i++) {
            check.due("state(" + i + ", 0) behind a run", names.state(i, 0), i + 1);
        }
    }

    private static void stateWrong() {
        check.sentence("Promise 10: state", "It throws as key() does.");
        CipherNotation none = new CipherNotation();
        check.refuses("state(0, 0) without a program", STATE, () -> none.state(0, 0));
        check.refuses("state(-1, -1) without a program", STATE, () -> none.state(-1, -1));
        for (int states = 2; states <= 4; states++) {
            CipherNotation x = Check.running("8:" + states + ":1;{}{}");
            for (int i : new int[] {-1, states, LEAST, MOST}) {
                check.refuses("state(" + i + ", 0) of " + states, INDEX, () -> x.state(i, 0));
                check.refuses("state(" + i + ", 256) of " + states, INDEX, () -> x.state(i, 256));
            }
            check.due("state(" + (states - 1) + ", 255)", x.state(states - 1, 255), 0);
        }
        for (int width = 8; width < 64; width *= 2) {
            CipherNotation x = Check.running(width + ":2:1;{}{}");
            for (long wrong : wrongWords(width)) {
                check.refuses("state(1, " + wrong + ") with " + width + " bits", ARGUMENT, () -> x.state(1, wrong));
            }
            check.due("state(1, top)", x.state(1, Check.top(width)), 0);
        }
        CipherNotation x = Check.running("64:2:1;{}{}");
        long was = 0;
        for (long word : new long[] {-1, Long.MIN_VALUE, Long.MAX_VALUE, 1L << 32, 0}) {
            check.due("state(1, " + word + ") with 64 bits", x.state(1, word), was);
            was = word;
        }
    }

    private static void keyWordEdges() {
        check.sentence("Promise 11: keyWord",
            "Key word i. IllegalStateException: there is no program; IndexOutOfBoundsException: no "
            + "such key word.");
        CipherNotation none = new CipherNotation();
        for (int keys = 1; keys <= 4; keys++) {
            CipherNotation x = Check.running("64:4:" + keys + ";{}{}");
            for (int i = 0; i < keys; i++) {
                check.due("keyWord(" + i + ")", x.keyWord(i), 0);
                x.key(i, -1 - i);
                check.due("keyWord(" + i + ") then", x.keyWord(i), -1 - i);
            }
            for (int i : new int[] {-1, keys, LEAST, MOST}) {
                check.refuses("keyWord(" + i + ") of " + keys, INDEX, () -> x.keyWord(i));
                check.refuses("keyWord(" + i + ") without a program", STATE, () -> none.keyWord(i));
            }
        }
    }

    private static void wordEdges() {
        check.sentence("Promise 12: word",
            "State word i. IllegalStateException: there is no program; IndexOutOfBoundsException: no "
            + "such state word.");
        CipherNotation none = new CipherNotation();
        for (int states = 2; states <= 4; states++) {
            CipherNotation x = Check.running("64:" + states + ":4;{}{}");
            for (int i = 0; i < states; i++) {
                check.due("word(" + i + ")", x.word(i), 0);
                x.state(i, -1 - i);
                check.due("word(" + i + ") then", x.word(i), -1 - i);
            }
            for (int i : new int[] {-1, states, LEAST, MOST}) {
                check.refuses("word(" + i + ") of " + states, INDEX, () -> x.word(i));
                check.refuses("word(" + i + ") without a program", STATE, () -> none.word(i));
            }
        }
    }

    private static void subkeyEdges() {
        check.sentence("Promise 13: subkey", "Subkey i");
        CipherNotation x = Check.running("64:2:1;{i16[j2[>~((2*i)+j);]]}{}");
        for (int i = 0; i < 32; i++) {
            check.due("subkey(" + i + ")", x.subkey(i), ~(long) i);
        }
        check.due("subkey(0) of one", Check.running("8:2:1;{>255;}{}").subkey(0), 255);
    }

    private static void subkeyWithTheKeyWords() {
        check.sentence("Promise 13: subkey", "as it is with the key words as they are.");
        CipherNotation x = Check.running("8:2:1;{>K(0);>(S(0)+1);}{A+=S(1);}");
        check.due("subkey(1) with the key 0", x.subkey(1), 1);
        x.key(0, 255);
        check.due("subkey(1) with the key 255", x.subkey(1), 0);
        check.due("subkey(0) with the key 255", x.subkey(0), 255);
        x.encrypt();
        x.key(0, 7);
        check.due("subkey(1) with the key 7, behind a run with another", x.subkey(1), 8);
        x.compile();
        check.due("subkey(1) behind compile()", x.subkey(1), 1);
    }

    private static void subkeyWrong() {
        check.sentence("Promise 13: subkey",
            "IllegalStateException: there is no program; IndexOutOfBoundsException: no such subkey.");
        String[] writings = {"", ">1;", "i16[j2[>1;]]"};
        int[] counts = {0, 1, 32};
        CipherNotation none = new CipherNotation();
        for (int n = 0; n < 3; n++) {
            CipherNotation x = Check.running("8:2:1;{" + writings[n] + "}{}");
            for (int i : new int[] {-1, counts[n], LEAST, MOST}) {
                check.refuses("subkey(" + i + ") of " + counts[n], INDEX, () -> x.subkey(i));
                check.refuses("subkey(" + i + ") without a program", STATE, () -> none.subkey(i));
            }
        }
        CipherNotation x = Check.running("8:2:1;{>1;>2;}{}");
        Check.compile(x, "8:2:1;{>1;}{}");
        check.refuses("subkey(1) when the program before had it", INDEX, () -> x.subkey(1));
    }

    private static void encryptAnew() {
        check.sentence("Promise 14: encrypt", "Does all steps, in their order (the WRITINGS are done before, anew).");
        CipherNotation x = Check.running("8:2:1;{>K(0);}{A+=S(0);A*=3;A+=1;}");
        x.key(0, 5);
        x.encrypt();
        check.due("A", x.word(0), 16);
        x.key(0, 6);
        x.encrypt();
        check.due("A with another key", x.word(0), 67);
        x.key(0, 255);
        x.encrypt();
        check.due("A with a third key", x.word(0), 66 * 3 + 1);
        CipherNotation last = Check.running("8:2:1;{}{i16[j15[A+=B;]]i16[j10[A:B;]]}");
        last.state(1, 1);
        last.encrypt();
        check.due("A by 240 sums and 160 exchanges", last.word(0), 240);
    }

    private static void encryptNothing() {
        check.sentence("Promise 14: encrypt",
            "Answers how many instructions that takes: those of the program, number(6). "
            + "IllegalStateException: there is no program.");
        CipherNotation none = new CipherNotation();
        check.refuses("encrypt() without a program", STATE, none::encrypt);
        CipherNotation x = Check.running(SMALL);
        x.state(0, 255);
        check.due("encrypt() of nothing", x.encrypt(), 0);
        check.due("A then", x.word(0), 255);
        check.due("encrypt() of loops of nothing", Check.running("8:2:1;{i16[j16[]]}{i16[j16[]]}").encrypt(), 0);
        check.due("encrypt() of WRITINGS alone", Check.running("8:2:1;{>1;}{}").encrypt(), 2);
        check.due("encrypt() of one step", Check.running("8:2:1;{}{A<1;}").encrypt(), 1);
        check.due("encrypt() of 400", Check.running("8:2:1;{}{i16[j15[A+=B;]]i16[j10[A:B;]]}").encrypt(), 400);
    }

    private static void decryptLastFirst() {
        check.sentence("Promise 15: decrypt", "Undoes all steps, the last one first.");
        CipherNotation x = Check.running("8:2:1;{>K(0);}{A+=S(0);A*=3;A+=1;}");
        x.key(0, 5);
        x.state(0, 16);
        x.decrypt();
        check.due("A", x.word(0), 0);
        x.decrypt();
        check.due("A undone again", x.word(0), 80);
        x.key(0, 255);
        x.state(0, 1);
        x.decrypt();
        check.due("A with another key", x.word(0), 1);
        CipherNotation loops = Check.running("64:2:1;{}{i16[A^=i;A<4;]}");
        loops.state(0, 0x123456789ABCDEF0L);
        loops.decrypt();
        check.due("A by 16 turns undone", loops.word(0), 0);
    }

    private static void decryptAnswers() {
        check.sentence("Promise 15: decrypt", "It answers and throws as encrypt() does.");
        CipherNotation none = new CipherNotation();
        check.refuses("decrypt() without a program", STATE, none::decrypt);
        CipherNotation x = Check.running(SMALL);
        x.state(0, 255);
        check.due("decrypt() of nothing", x.decrypt(), 0);
        check.due("A then", x.word(0), 255);
        check.due("decrypt() of WRITINGS alone", Check.running("8:2:1;{>1;}{}").decrypt(), 2);
        check.due("decrypt() of one step", Check.running("8:2:1;{}{A<1;}").decrypt(), 1);
        check.due("decrypt() of 400", Check.running("8:2:1;{}{i16[j15[A+=B;]]i16[j10[A:B;]]}").decrypt(), 400);
    }

    private static void applyEdges() {
        check.sentence("Promise 16: apply",
            "Does the steps from .. to - 1 in their order [..] (steps are counted from 0, each turn of "
            + "a loop by itself).");
        // B is 1, then 256 and so on, so that A tells which turns were done
        CipherNotation x = Check.running("64:2:1;{>K(0);}{A+=S(0);i3[A+=(B*(i+1));B:B;j2[B<4;]]A*=3;}");
        check.due("number(5)", x.number(5), 14);
        x.state(1, 1);
        x.key(0, 7);
        check.due("apply(0, 1)", x.apply(0, 1), 1);
        check.due("A by the first step", x.word(0), 7);
        check.due("apply(1, 2)", x.apply(1, 2), 1);
        check.due("A by the first turn", x.word(0), 8);
        check.due("apply(2, 6)", x.apply(2, 6), 4);
        check.due("A by the second turn", x.word(0), 8 + 0x200);
        check.due("B by two turns of j", x.word(1), 0x100);
        check.due("apply(13, 14)", x.apply(13, 14), 1);
        check.due("A by the last step", x.word(0), 3 * (8 + 0x200));
        x.state(0, 0);
        x.state(1, 1);
        check.due("apply(0, 14)", x.apply(0, 14), 14);
        check.due("A by all steps", x.word(0), 3 * (7 + 1 + 0x200 + 0x30000));
        check.due("B by all steps", x.word(1), 0x1000000);
    }

    private static void applyBack() {
        check.sentence("Promise 16: apply",
            "or, when to is less than from, undoes the steps from - 1, .. down to the step with number "
            + "to");
        CipherNotation x = Check.running("64:2:1;{>K(0);}{A+=S(0);i3[A+=(B*(i+1));B<8;]A*=3;}");
        check.due("number(5)", x.number(5), 8);
        x.state(1, 1);
        x.key(0, 7);
        x.encrypt();
        check.due("A by all steps", x.word(0), 3 * 0x30208);
        check.due("apply(8, 7)", x.apply(8, 7), 1);
        check.due("A without the last step", x.word(0), 0x30208);
        check.due("apply(7, 5)", x.apply(7, 5), 2);
        check.due("A without the last turn", x.word(0), 0x208);
        check.due("B without the last turn", x.word(1), 0x10000);
        check.due("apply(5, 1)", x.apply(5, 1), 4);
        check.due("A without any turn", x.word(0), 7);
        check.due("apply(1, 0)", x.apply(1, 0), 1);
        check.due("A without any step", x.word(0), 0);
        x.encrypt();
        check.due("apply(8, 0)", x.apply(8, 0), 8);
        check.due("A without any step", x.word(0), 0);
        check.due("B without any step", x.word(1), 1);
        x.key(0, 9);
        check.due("apply(1, 0) with another key", x.apply(1, 0), 1);
        check.due("A then", x.word(0), -9);
    }

    private static void applyNone() {
        check.sentence("Promise 16: apply", "Answers how many steps these are (0 when from is to).");
        CipherNotation x = Check.running("8:2:1;{}{i16[j16[A+=B;]]}");
        x.state(1, 1);
        for (int step : new int[] {0, 1, 255, 256}) {
            check.due("apply(" + step + ", " + step + ")", x.apply(step, step), 0);
            check.due("A then", x.word(0), 0);
        }
        check.due("apply(0, 256)", x.apply(0, 256), 256);
        check.due("apply(256, 0)", x.apply(256, 0), 256);
        check.due("apply(0, 255)", x.apply(0, 255), 255);
        check.due("A then", x.word(0), 255);
        CipherNotation none = Check.running(SMALL);
        check.due("apply(0, 0) of no step", none.apply(0, 0), 0);
        CipherNotation all = Check.running("8:2:1;{}{i16[j15[A+=B;]]i16[j10[A:B;]]}");
        check.due("apply(0, 400)", all.apply(0, 400), 400);
        check.due("apply(400, 0)", all.apply(400, 0), 400);
    }

    private static void applyWrong() {
        check.sentence("Promise 16: apply",
            "IllegalStateException: there is no program; IllegalArgumentException: from or to is below "
            + "0, or more than the number of steps.");
        String[] steps = {"", "A+=1;", "i16[j12[A+=1;]]"};
        int[] counts = {0, 1, 192};
        CipherNotation none = new CipherNotation();
        for (int n = 0; n < 3; n++) {
            CipherNotation x = Check.running("8:2:1;{>1;}{" + steps[n] + "}");
            int count = counts[n];
            check.due("apply to the last", x.apply(0, count), count);
            x.state(0, 77);
            for (int wrong : new int[] {-1, count + 1, LEAST, MOST}) {
                for (int right : new int[] {0, count, wrong}) {
                    check.refuses("apply(" + wrong + ", " + right + ")", ARGUMENT, () -> x.apply(wrong, right));
                    check.refuses("apply(" + right + ", " + wrong + ")", ARGUMENT, () -> x.apply(right, wrong));
                    check.refuses("apply(" + right + ", " + wrong + ")", STATE, () -> none.apply(right, wrong));
                }
            }
            check.due("A behind wrong calls", x.word(0), 77);
        }
    }
}

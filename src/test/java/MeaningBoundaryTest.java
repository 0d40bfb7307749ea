/** The boundary cases that, of the terms, "what it means" names: wrap-around, first and last, none and all. */
public final class MeaningBoundaryTest {
    private static final Check check = new Check("MeaningBoundaryTest");
    private static final String MEANING = "Terms, what it means";
    private static final int[] WIDTHS = {8, 16, 32, 64};

    public static void main(String[] args) {
        words();
        wordsAsUnsigned();
        sums();
        differences();
        products();
        turns();
        turnsOfTwoLoops();
        terms();
        exactSums();
        noSuchKeyWord();
        subkeysWrittenBefore();
        subkeysWrittenInAll();
        allBitsTurned();
        partsTurnedRound();
        twelveOpen();
        nextSubkeys();
        simpleSteps();
        turnedByANumber();
        turnedByAWord();
        exchanged();
        digitsReplaced();
        spread();
        tablesOfCharacters();
        tablesByRule();
        oneStep();
        undone();
        undoneFactors();
        undoneSpreads();
        check.end();
    }

    private static CipherNotation running(int width, String steps, long... words) {
        CipherNotation x = Check.running(width + ":4:1;#63f1b2c4d5e7980a;#*5+3;{}{" + steps + "}");
        for (int i = 0; i < words.length; i++) {
            x.state(i, words[i]);
        }
        return x;
    }

    /** What the word A becomes by these steps, and that all words become what they were when they are undone. */
    private static void becomes(long due, int width, String steps, long... words) {
        CipherNotation x = running(width, steps, words);
        x.encrypt();
        check.due("A by " + steps + " with " + width + " bits", x.word(0), due);
        x.decrypt();
        for (int i = 0; i < words.length; i++) {
            check.due("word " + i + " by " + steps + " with " + width + " bits, undone", x.word(i), words[i]);
        }
    }

    /** The value of an expression with a word at X, as it is in a WRITING and in a step. */
    private static void value(long due, int width, String expression, long word) {
        CipherNotation x = Check.running(width + ":2:1;{>" + expression.replace("X", "K(0)") + ";}{}");
        x.key(0, word);
        check.due(expression + " in a WRITING with " + width + " bits", x.subkey(0), due);
        becomes(due, width, "A^=" + expression.replace("X", "B") + ";", 0, word);
    }

    private static void words() {
        check.sentence(MEANING, "All words are numbers 0 .. 2 to the w, less 1");
        for (int width : WIDTHS) {
            long top = Check.top(width);
            value(top, width, "~0", 0);
            value(0, width, "~~0", 0);
            value(top, width, "X", top);
            value(0, width, "~X", top);
            value(top, width, "(X|1)", top - 1);
            value(0, width, "(X&0)", top);
            value(top, width, "(X^~X)", 5);
            value(0, width, "(X^X)", top);
            value(1, width, "(X^~1)", top);
            value(top - 1, width, "(X&~1)", top);
            value(top, width, "(X|~1)", 1);
            becomes(top, width, "A^=B;", 0, top);
            becomes(0, width, "A^=B;", top, top);
            becomes(top, width, "A:B;", 0, top);
        }
        value(255, 8, "X", 255);
        value(65535, 16, "X", 65535);
        value(4294967295L, 32, "X", 4294967295L);
        value(-1, 64, "X", -1);
    }

    private static void wordsAsUnsigned() {
        check.sentence(MEANING, "(for w = 64: longs, taken as unsigned)");
        value(1, 64, "(X<1)", Long.MIN_VALUE);
        value(3, 64, "(X<2)", Long.MIN_VALUE | 1L << 62);
        value(Long.MAX_VALUE, 64, "(X<63)", -2);
        value(Long.MIN_VALUE, 64, "(X+1)", Long.MAX_VALUE);
        value(Long.MAX_VALUE, 64, "(X-1)", Long.MIN_VALUE);
        becomes(Long.MIN_VALUE, 64, "A<B;", 1, -1);
        becomes(1, 64, "A<B;", 1, Long.MIN_VALUE);
        becomes(0xA0897E5D4C2B1F36L, 64, "A#0;", 0xFEDCBA9876543210L);
    }

    private static void sums() {
        check.sentence(MEANING, "sums, differences and products are taken modulo 2 to the w.", "sums");
        for (int width : WIDTHS) {
            long top = Check.top(width);
            value(top, width, "(X+1)", top - 1);
            value(0, width, "(X+1)", top);
            value(0, width, "(1+X)", top);
            value(top - 1, width, "(X+X)", top);
            value(0, width, "(~0+1)", 0);
            becomes(top, width, "A+=1;", top - 1);
            becomes(0, width, "A+=1;", top);
            becomes(top - 1, width, "A+=B;", top, top);
        }
    }

    private static void differences() {
        check.sentence(MEANING, "sums, differences and products are taken modulo 2 to the w.", "differences");
        for (int width : WIDTHS) {
            long top = Check.top(width);
            value(0, width, "(X-1)", 1);
            value(top, width, "(X-1)", 0);
            value(1, width, "(0-X)", top);
            value(top, width, "(0-1)", 0);
            value(0, width, "(X-X)", top);
            becomes(0, width, "A-=1;", 1);
            becomes(top, width, "A-=1;", 0);
            becomes(1, width, "A-=B;", 0, top);
        }
    }

    private static void products() {
        check.sentence(MEANING, "sums, differences and products are taken modulo 2 to the w.", "products");
        for (int width : WIDTHS) {
            long top = Check.top(width);
            value(1, width, "(X*X)", top);
            value(top - 1, width, "(2*X)", top);
            value(0, width, "(X*X)", 1L << width / 2);
            value(1, width, "(~0*~0)", 0);
            value(0, width, "(X*2)", 1L << width - 1);
            becomes(top - 2, width, "A*=3;", top);
            becomes(1L << width - 1, width, "A*=255;", 1L << width - 1);
            becomes(0, width, "A*=255;", 0);
        }
        becomes(1, 8, "A*=255;", 255);
        becomes(1, 16, "A*=65535;", 65535);
    }

    private static void turns() {
        check.sentence(MEANING,
            "A loop does what is in it as often as its number says, its LETTER being 0, 1, .. in these "
            + "turns.");
        for (String letter : new String[] {"i", "j"}) {
            becomes(0, 64, letter + "1[A^=" + letter + ";]", 0);
            becomes(-1, 64, letter + "1[A^=~" + letter + ";]", 0);
            becomes(0x0123456789ABCDEFL, 64, letter + "16[A<4;A^=" + letter + ";]", 0);
            becomes(16, 64, letter + "16[A+=1;]", 0);
            CipherNotation x = Check.running("8:2:1;{" + letter + "16[>" + letter + ";]" + letter + "1[>" + letter
                + ";]}{}");
            check.due("subkeys of 16 turns and 1", x.number(4), 17);
            for (int i = 0; i < 17; i++) {
                check.due("the LETTER in turn " + i, x.subkey(i), i % 16);
            }
        }
    }

    private static void turnsOfTwoLoops() {
        check.sentence(MEANING,
            "A loop does what is in it as often as its number says, its LETTER being 0, 1, .. in these "
            + "turns.", "a loop in a loop");
        CipherNotation x = Check.running("8:2:1;{i2[j16[>((16*i)+j);]]}{}");
        CipherNotation y = Check.running("8:2:1;{j2[i16[>((16*j)+i);]]}{}");
        for (int i = 0; i < 32; i++) {
            check.due("subkey " + i + " of j in i", x.subkey(i), i);
            check.due("subkey " + i + " of i in j", y.subkey(i), i);
        }
        becomes(0x000102101112L, 64, "i2[j3[A<8;A^=((16*i)+j);]]", 0);
        // a loop of nothing does nothing, in each turn of another too
        becomes(0x00010203L, 64, "i4[j16[]A<8;A^=i;j16[]]", 0);
        becomes(7, 64, "i16[j16[]]A^=7;", 0);
        // what stands behind a loop is in no turn of it
        becomes(0x0102030401L, 64, "i4[A<8;A^=(i+1);]A<8;A^=1;", 0);
    }

    private static void terms() {
        check.sentence(MEANING, "A TERM is its number, its LETTER's number, or the product of both");
        CipherNotation x = Check.running("64:2:4;{>K(3);i4[>K(i);]i2[>K(3i);]j1[>K(999999999j+2);]"
            + "i2[j2[>K(2i+j);]]}{}");
        for (int i = 0; i < 4; i++) {
            x.key(i, 100 + i);
        }
        int[] due = {3, 0, 1, 2, 3, 0, 3, 2, 0, 1, 2, 3};
        for (int i = 0; i < due.length; i++) {
            check.due("subkey " + i, x.subkey(i), 100 + due[i]);
        }
        CipherNotation all = Check.running("64:2:1;{i16[j2[>(i+(16*j));]]}{i16[A<4;A^=S(2i+1);]i16[B<4;B^=S(2i);]}");
        all.encrypt();
        check.due("A by S(1), S(3), .. S(31)", all.word(0), sixteenDigits(16));
        check.due("B by S(0), S(2), .. S(30)", all.word(1), sixteenDigits(0));
    }

    private static long sixteenDigits(int more) {
        long word = 0;
        for (int i = 0; i < 16; i++) {
            word = (word << 4 | word >>> 60) ^ i + more;
        }
        return word;
    }

    private static void exactSums() {
        check.sentence(MEANING, "an INDEX is the exact sum of its terms.");
        // no sum is taken modulo the words' width, or that of an int
        check.fault(3, "8:2:1;{>!K(256);}{}");
        check.fault(3, "8:2:1;{>!K(255+1);}{}");
        check.fault(3, "16:2:1;{>!K(65536);}{}");
        check.fault(3, "16:2:1;{i2[>!K(65535i+i);]}{}");
        check.fault(3, "32:2:1;{>!K(999999999+999999999+147483650);}{}");
        check.fault(3, "32:2:1;{>!K(999999999+999999999+999999999+999999999+294967300);}{}");
        check.fault(3, "8:2:1;{i16[>!K(286331153i);]}{}");
        check.fault(3, "8:2:1;{i9[>!K(536870912i);]}{}");
        check.fault(3, "64:2:1;{i2[>!K(999999999i+999999999i+999999999i+999999999i+294967300i);]}{}");
        check.fault(3, "8:2:1;{i16[j16[>!S(268435456i+268435456j);]]}{}");
        check.fault(3, "8:2:1;{>1;>1;}{i16[A^=!S(858993459i);]}");
        check.fine("8:2:1;{i1[>K(999999999i+999999999i+999999999i+999999999i+999999999i);]}{}");
        CipherNotation x = Check.running("8:2:4;{>K(1+0+1+0+1);i2[>K(i+i+i);j2[>K(i+0j+j+1);]]}{}");
        for (int i = 0; i < 4; i++) {
            x.key(i, 100 + i);
        }
        int[] due = {3, 0, 1, 2, 3, 2, 3};
        for (int i = 0; i < due.length; i++) {
            check.due("subkey " + i, x.subkey(i), 100 + due[i]);
        }
    }

    private static void noSuchKeyWord() {
        check.sentence(MEANING, "an index is TOO GREAT when there is no such key word");
        for (int keys = 1; keys <= 4; keys++) {
            CipherNotation x = Check.running("8:2:" + keys + ";{>K(" + (keys - 1) + ");}{}");
            x.key(keys - 1, 77);
            check.due("the last key word of " + keys, x.subkey(0), 77);
            check.fault(3, "8:2:" + keys + ";{>!K(" + keys + ");}{}");
        }
    }

    private static void subkeysWrittenBefore() {
        check.sentence(MEANING, "or, within a WRITING, when not that many and one more subkeys were written before");
        check.fault(3, "8:2:1;{>!S(0);}{}");
        CipherNotation x = Check.running("8:2:1;{>7;i16[>(S(i)+1);]i15[>(S(i+16)+2);]}{}");
        check.due("subkey 16", x.subkey(16), 7 + 16);
        check.due("subkey 31", x.subkey(31), 7 + 16 + 30);
        check.fault(3, "8:2:1;{>7;i16[>(S(i)+1);]i15[>(!S(i+17)+2);]}{}");
        check.fault(3, "8:2:1;{>7;>!S(1);>8;}{}");
        check.fault(3, "8:2:1;{>7;i2[>!S(2i);]}{}");
        check.fine("8:2:1;{>7;i2[>S(2i);>8;]}{}");
    }

    private static void subkeysWrittenInAll() {
        check.sentence(MEANING, "or, within a STEP, are written in all.");
        CipherNotation x = Check.running("8:2:1;{i16[j2[>(i+(16*j));]]}{A^=S(31);}");
        x.encrypt();
        check.due("A by the last subkey", x.word(0), 31);
        check.fault(3, "8:2:1;{i16[j2[>1;]]}{A^=!S(32);}");
        check.fault(3, "8:2:1;{}{A^=!S(0);}");
    }

    private static void allBitsTurned() {
        check.sentence(MEANING, "~ turns all w bits");
        for (int width : WIDTHS) {
            long top = Check.top(width);
            value(top, width, "~X", 0);
            value(0, width, "~X", top);
            value(top >>> 1, width, "~X", 1L << width - 1);
            value(top - 1, width, "~X", 1);
            value(1, width, "~~X", 1);
        }
    }

    private static void partsTurnedRound() {
        check.sentence(MEANING, "( e < n ) is e, turned round by n bits to the left.");
        for (int width : WIDTHS) {
            long top = Check.top(width);
            long high = 1L << width - 1;
            value(high | 1, width, "(X<0)", high | 1);
            value(3, width, "(X<1)", high | 1);
            value(high | high >>> 1, width, "(X<" + (width - 1) + ")", high | 1);
            value(high, width, "(1<" + (width - 1) + ")", 0);
            value(top, width, "(X<" + (width / 2) + ")", top);
            value(1, width, "((X<" + (width - 1) + ")<1)", 1);
        }
    }

    private static void twelveOpen() {
        check.sentence("Terms, the description",
            "At most twelve of ~ and ( (those of an INDEX not counted) are open, one inside the other, "
            + "in an expression.", "what these mean");
        for (int width : WIDTHS) {
            value(13, width, "(X+".repeat(12) + "X" + ")".repeat(12), 1);
            value(13, width, "(".repeat(12) + "X" + "+X)".repeat(12), 1);
            value(7, width, "(X-".repeat(12) + "7" + ")".repeat(12), 1);
            value(Check.top(width) - 10, width, "(".repeat(12) + "X" + "-1)".repeat(12), 1);
            value(1, width, "~".repeat(12) + "X", 1);
            value(Check.top(width) - 1, width, "~".repeat(11) + "X", 1);
            value(16, width, "(".repeat(12) + "X" + "<1)".repeat(12), 1L << width - 8);
        }
    }

    private static void nextSubkeys() {
        check.sentence(MEANING,
            "Done in their order, each WRITING > makes the next SUBKEY (0, 1, ..) the value of its "
            + "expression.");
        CipherNotation x = Check.running("8:2:1;{>10;i2[>(20+i);j2[>(S(0)+j);]]>30;}{}");
        int[] due = {10, 20, 10, 11, 21, 10, 11, 30};
        check.due("number(4)", x.number(4), due.length);
        for (int i = 0; i < due.length; i++) {
            check.due("subkey " + i, x.subkey(i), due[i]);
        }
        CipherNotation all = Check.running("8:2:1;{>3;i15[j2[>(S(2i+j)+1);]]>S(0);}{}");
        check.due("subkey 30", all.subkey(30), 33);
        check.due("subkey 31", all.subkey(31), 3);
    }

    private static void simpleSteps() {
        check.sentence(MEANING, "Each STEP changes the state: ^=, +=, -=, *= as they say");
        for (int width : WIDTHS) {
            long top = Check.top(width);
            becomes(top - 5, width, "A^=B;", 5, top);
            becomes(4, width, "A+=B;", 5, top);
            becomes(6, width, "A-=B;", 5, top);
            becomes(15, width, "A*=3;", 5);
            becomes(5, width, "A^=0;A+=0;A-=0;A*=1;", 5);
        }
    }

    private static void turnedByANumber() {
        check.sentence(MEANING, "< turns the word round to the left by a number of bits");
        for (int width : WIDTHS) {
            long high = 1L << width - 1;
            becomes(high | 1, width, "A<0;", high | 1);
            becomes(3, width, "A<1;", high | 1);
            becomes(high | high >>> 1, width, "A<" + (width - 1) + ";", high | 1);
            becomes(5, width, "A<" + (width - 1) + ";A<1;", 5);
        }
    }

    private static void turnedByAWord() {
        check.sentence(MEANING, "or by the word behind modulo w");
        for (int width : WIDTHS) {
            long top = Check.top(width);
            long high = 1L << width - 1;
            becomes(high | 1, width, "A<B;", high | 1, 0);
            becomes(3, width, "A<B;", high | 1, 1);
            becomes(high | high >>> 1, width, "A<B;", high | 1, width - 1);
            becomes(high | 1, width, "A<B;", high | 1, width);
            becomes(3, width, "A<B;", high | 1, width + 1);
            becomes(high | high >>> 1, width, "A<B;", high | 1, top);
            becomes(high | 1, width, "A<B;", high | 1, high);
            becomes(6, width, "A<B;", high | 1, high + 2);
        }
    }

    private static void exchanged() {
        check.sentence(MEANING, "X : Y exchanges two words");
        CipherNotation x = running(8, "A:D;B:C;C:D;A:A;", 1, 2, 3, 255);
        x.encrypt();
        long[] due = {255, 3, 1, 2};
        for (int i = 0; i < 4; i++) {
            check.due("word " + i, x.word(i), due[i]);
        }
        x.decrypt();
        long[] before = {1, 2, 3, 255};
        for (int i = 0; i < 4; i++) {
            check.due("word " + i + " undone", x.word(i), before[i]);
        }
        becomes(9, 8, "A:A;", 9, 5);
        becomes(9, 8, "A:B;B:A;", 9, 5);
        becomes(-1, 64, "B:A;", 0, -1);
    }

    private static void digitsReplaced() {
        check.sentence(MEANING, "# puts in place of each of its four-bit digits (w / 4 of them) that of the table");
        for (int width : WIDTHS) {
            long top = Check.top(width);
            becomes(top & 0x6666666666666666L, width, "A#0;", 0);
            becomes(top & 0xAAAAAAAAAAAAAAAAL, width, "A#0;", top);
            becomes(top & 0x6666666666666663L, width, "A#0;", 1);
            becomes(0xDL << width - 4 | top >>> 4 & 0x6666666666666666L, width, "A#0;", 8L << width - 4);
            becomes(top & 0xA0897E5D4C2B1F36L, width, "A#0;", top & 0xFEDCBA9876543210L);
            becomes(top & 0x63F1B2C4D5E7980AL, width, "A#0;", top & 0x0123456789ABCDEFL);
            becomes(top & 0x3333333333333333L, width, "A#1;", 0);
            becomes(top & 0x38D27C16B05AF49EL, width, "A#1;", top & 0x0123456789ABCDEFL);
        }
    }

    private static void spread() {
        check.sentence(MEANING,
            "@ makes the word the ^ of what it is when turned round to the left by each of the numbers.");
        for (int width : WIDTHS) {
            long top = Check.top(width);
            long high = 1L << width - 1;
            int last = width - 1;
            becomes(high | 1, width, "A@0;", high | 1);
            becomes(3, width, "A@1;", high | 1);
            becomes(high, width, "A@" + last + ";", 1);
            becomes(high | 3, width, "A@0,1," + last + ";", 1);
            becomes(top, width, "A@0,1," + last + ";", top);
            becomes(0, width, "A@0,1," + last + ";", 0);
            becomes(2, width, "A@1,0,0;", 1);
            becomes(high, width, "A@" + last + "," + last + "," + last + ";", 1);
            becomes(2, width, "A@1,1,1,1,1;", 1);
            becomes(high | 15, width, "A@0,1,2,3," + last + ";", 1);
        }
    }

    private static void tablesOfCharacters() {
        check.sentence(MEANING, "A table of sixteen characters has these hexadecimal digits for 0, 1, .. 15");
        CipherNotation x = Check.running("8:2:1;#0123456789abcdef;#f0e1d2c3b4a59687;{}{}");
        for (int i = 0; i < 16; i++) {
            check.due("the first table for " + i, x.table(0, i, false), i);
            check.due("the second table for " + i, x.table(1, i, false), i % 2 == 0 ? 15 - i / 2 : i / 2);
        }
    }

    private static void tablesByRule() {
        check.sentence(MEANING, "one with m and n has (i m + n) modulo 16 for i.");
        for (int m = 0; m < 16; m++) {
            for (int n = 0; n < 16; n++) {
                CipherNotation x = Check.running("8:2:1;#0123456789abcdef;#*" + m + "+" + n + ";{}{}");
                for (int i = 0; i < 16; i++) {
                    check.due("the table of " + m + " and " + n + " for " + i, x.table(1, i, false), (i * m + n) % 16);
                }
            }
        }
    }

    private static void oneStep() {
        check.sentence(MEANING,
            "ONE STEP, in what follows, is what is done in one turn: each step in a loop is as many as "
            + "there are turns.");
        check.due("steps of none", running(8, "").number(5), 0);
        check.due("steps of loops of nothing", running(8, "i16[j16[]]").number(5), 0);
        check.due("steps of one", running(8, "A<1;").number(5), 1);
        check.due("steps of one turn", running(8, "i1[A<1;]").number(5), 1);
        check.due("steps of 16 turns", running(8, "i16[A<1;]").number(5), 16);
        check.due("steps of 16 times 16 turns", running(8, "i16[j16[A<1;]]").number(5), 256);
        check.due("steps of 16 times 16 turns and more", running(8, "A<1;i16[j16[A<1;]B<1;]A<1;").number(5), 274);
        CipherNotation x = running(8, "i16[j16[A+=B;]]", 0, 1);
        check.due("the last of 256 steps", x.apply(255, 256), 1);
        check.due("A then", x.word(0), 1);
    }

    private static void undone() {
        check.sentence(MEANING,
            "To UNDO a step is to change the state to the one that the step would change into what it "
            + "was.");
        String[] steps = {"A^=B;", "A^=~(B-C);", "A+=(B*C);", "A-=(B|D);", "A*=251;", "A<0;", "A<3;", "A<B;", "A:B;",
            "A:A;", "A#0;", "A#1;", "A@0;", "A@0,1,7;", "A@1,1,1;", "A@0,2,3,5,7;", "i3[A+=(B+i);B<A;]",
            "i16[j2[A^=(i*j);A*=3;]]"};
        for (int width : WIDTHS) {
            long top = Check.top(width);
            long[] edges = {0, 1, top, 1L << width - 1, top >>> 1, 0x9E3779B97F4A7C15L & top};
            for (String step : steps) {
                for (int n = 0; n < edges.length * edges.length; n++) {
                    long[] words = {edges[n % 6], edges[n / 6], edges[(n + 1) % 6], edges[(n + 3) % 6]};
                    thereAndBack(running(width, step, words), words, step);
                }
            }
        }
    }

    private static void thereAndBack(CipherNotation x, long[] words, String step) {
        x.encrypt();
        x.decrypt();
        for (int i = 0; i < words.length; i++) {
            check.due("word " + i + " by " + step + " done and undone", x.word(i), words[i]);
        }
        x.decrypt();
        x.encrypt();
        for (int i = 0; i < words.length; i++) {
            check.due("word " + i + " by " + step + " undone and done", x.word(i), words[i]);
        }
    }

    private static void undoneFactors() {
        check.sentence(MEANING,
            "To UNDO a step is to change the state to the one that the step would change into what it "
            + "was.", "every odd factor");
        for (int factor = 1; factor < 256; factor += 2) {
            for (int width : WIDTHS) {
                CipherNotation x = running(width, "A*=" + factor + ";", 1);
                x.decrypt();
                check.due("what undoes " + factor + " times it", x.word(0) * factor & Check.top(width), 1);
            }
        }
        for (int factor : new int[] {65535, 32769, 32767, 999999999, 536870913, 536870911}) {
            CipherNotation x = running(factor < 65536 ? 16 : 64, "A*=" + factor + ";", 1);
            x.decrypt();
            check.due("what undoes " + factor + " times it", x.word(0) * factor & Check.top(x.number(0)), 1);
        }
    }

    private static void undoneSpreads() {
        check.sentence(MEANING,
            "To UNDO a step is to change the state to the one that the step would change into what it "
            + "was.", "every three numbers");
        for (int width : WIDTHS) {
            for (int n = 0; n < 512; n++) {
                int scale = width / 8;
                String numbers = n % 8 * scale + "," + (n / 8 % 8 * scale + scale - 1) + "," + n / 64 * scale;
                CipherNotation x = running(width, "A@" + numbers + ";", 1);
                x.decrypt();
                x.encrypt();
                check.due("A by A@" + numbers + " undone and done", x.word(0), 1);
                x.encrypt();
                x.decrypt();
                check.due("A by A@" + numbers + " done and undone", x.word(0), 1);
            }
        }
    }
}

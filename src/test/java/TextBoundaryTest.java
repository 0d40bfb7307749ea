/** The boundary cases that "What it is" and, of the terms, the text and the description name. */
public final class TextBoundaryTest {
    private static final Check check = new Check("TextBoundaryTest");
    private static final int NONE = CipherNotation.NONE;
    private static final String TEXT = "Terms, the text";
    private static final String DESCRIPTION = "Terms, the description";
    private static final String DIGITS = "0123456789";
    private static final String EXPRESSION = DIGITS + "ABCDKSij~(";
    private static final String BEHIND_A_PART = "^&|+-*<";
    private static final String TERM = DIGITS + "ij";
    private static final String HEAD = "16:2:1;";
    private static final String STEPS = HEAD + "{}{";
    /** A description with a number of several digits wherever one may stand. */
    private static final String WHOLE = "16:03:02;#63f1b2c4d5e7980a;#*15+10;{>K(00);i10[>((K(00i+01)+S(i+00))<11);]}"
        + "{A^=(B|10);j11[B-=~S(00j+10);]C@10,11,12;A<C;B<13;A*=15;A#00;B+=(A*012);A:B;}";

    public static void main(String[] args) {
        calls();
        none();
        lengthOfText();
        codesOfText();
        blanks();
        blanksAlone();
        digits();
        anyNumberOfThings();
        signsThatAreNoStars();
        order();
        atMostTwoTables();
        sixteenCharacters();
        tablesByRule();
        writings();
        steps();
        atMostFiveNumbers();
        loops();
        names();
        atMostTwoLoops();
        expressions();
        atMostTwelveOpen();
        indexes();
        check.end();
    }

    private static void calls() {
        check.sentence("What it is", "An object is used for at most 512 calls after it has been made");
        String text = "8:2:1;{}{i8[" + "A+=B;".repeat(45) + "]} ";
        check.due("the length of the text", text.length(), 240);
        CipherNotation runs = new CipherNotation();
        for (int from = 0; from < 240; from += 8) {
            runs.write(Check.packed(text.substring(from, from + 8)));
        }
        runs.compile();
        runs.state(1, 1);
        for (int call = 33; call < 512; call++) {
            runs.encrypt();
        }
        check.due("word(0) as call 512", runs.word(0), 479 * 8 * 45 % 256);
        CipherNotation compiles = new CipherNotation();
        for (int from = 0; from < 240; from += 8) {
            compiles.write(Check.packed(text.substring(from, from + 8)));
        }
        for (int call = 31; call < 512; call++) {
            compiles.compile();
        }
        check.due("number(5) as call 512", compiles.number(5), 360);
    }

    private static void none() {
        check.sentence("The public face", "public static final int NONE = -1;");
        check.due("NONE", NONE, -1);
    }

    private static void lengthOfText() {
        check.sentence(TEXT, "THE TEXT has up to 240 characters with codes 32 .. 126.", "240");
        CipherNotation x = new CipherNotation();
        String text = "8:2:1;{}{" + "A<1;".repeat(57) + " }";
        Check.write(x, text);
        check.due("character 240", x.write(' '), 240);
        check.due("compile() of 240 characters", x.compile(), 0);
        check.due("the steps", x.number(5), 57);
        check.due("character 241", x.write(' '), NONE);
        check.due("compile() of the same", x.compile(), 0);
        String last = "8:2:1;{}{" + "A<1;".repeat(57) + "  }";
        check.due("compile() when the last character is a sign", Check.compile(x, last), 0);
        check.due("its length", x.write(0), 240);
    }

    private static void codesOfText() {
        check.sentence(TEXT, "THE TEXT has up to 240 characters with codes 32 .. 126.", "codes");
        for (int code = 1; code < 256; code++) {
            boolean isCharacter = code >= 32 && code <= 126;
            check.due("write(" + code + ")", new CipherNotation().write(code), isCharacter ? 1 : NONE);
        }
        check.faultAt(0, 1, "~");
        check.fine(" " + HEAD + "{>~1;}{}");
    }

    /** The places of the sixteen characters of WHOLE's first table, which are no number. */
    private static boolean isWithinNumber(int place) {
        boolean isBetweenDigits = place > 0 && place < WHOLE.length() && DIGITS.indexOf(WHOLE.charAt(place - 1)) >= 0
            && DIGITS.indexOf(WHOLE.charAt(place)) >= 0;
        int table = WHOLE.indexOf('#');
        return isBetweenDigits && (place < table || place > table + 17);
    }

    private static void blanks() {
        check.sentence(TEXT, "Blanks (32) may stand anywhere but within a number, and count for nothing.");
        String form = Check.form(Check.running(WHOLE));
        int within = 0;
        for (int place = 0; place <= WHOLE.length(); place++) {
            for (String blanks : new String[] {" ", "   "}) {
                String text = WHOLE.substring(0, place) + blanks + WHOLE.substring(place);
                if (isWithinNumber(place)) {
                    within++;
                    check.faultAt(place + blanks.length(), 1, text);
                } else {
                    CipherNotation x = new CipherNotation();
                    check.due("compile() of " + text, Check.compile(x, text), 0);
                    check.due("the form of " + text, Check.form(x), form);
                }
            }
        }
        check.due("places within numbers are enough", within > 40 ? 1 : 0, 1);
        // nine digits and a blank, then the tenth: it is refused in either way, at the same sign
        check.fault(1, "000000016 !0:2:1;{}{}");
    }

    private static void blanksAlone() {
        check.sentence(TEXT,
            "Blanks (32) may stand anywhere but within a number, and count for nothing.", "nothing else");
        check.fault(1, " !");
        check.faultAt(240, 1, " ".repeat(240));
        CipherNotation x = new CipherNotation();
        check.due("compile() of a text at the very end", Check.compile(x, " ".repeat(230) + "8:2:1;{}{}"), 0);
        check.due("its form", Check.form(x), "8:2:1;{}{}");
        check.due("compile() of a text before blanks", Check.compile(x, "8:2:1;{}{}" + " ".repeat(230)), 0);
        check.due("its form", Check.form(x), "8:2:1;{}{}");
    }

    /** A number of the text stands at %, the digit is one that may stand there. */
    private static void number(String text, int digit) {
        int place = text.indexOf('%');
        check.faultAt(place, 1, text.replace("%", ""));
        check.fine(text.replace("%", String.valueOf(digit)));
        check.fine(text.replace("%", "00000000" + digit));
        check.faultAt(place + 9, 1, text.replace("%", "00000000" + digit + "0"));
        check.faultAt(place + 9, 1, text.replace("%", "000000000" + digit));
        check.faultAt(place + 9, 1, text.replace("%", "9999999999"));
        CipherNotation x = new CipherNotation();
        boolean isDescription = Check.compile(x, text.replace("%", "999999999")) != 1;
        check.due("nine digits are a number in " + text, isDescription ? 1 : 0, 1);
    }

    private static void digits() {
        check.sentence(TEXT, "A NUMBER is one to nine digits.");
        number("%:2:1;{}{}", 8);
        number("8:%:1;{}{}", 2);
        number("8:2:%;{}{}", 1);
        number("8:2:1;#*%+1;{}{}", 3);
        number("8:2:1;#*3+%;{}{}", 1);
        number("8:2:1;{i%[]}{}", 1);
        number("8:2:1;{i1[j%[]]}{}", 1);
        number("8:2:1;{}{j%[]}", 1);
        number("8:2:1;{>%;}{}", 7);
        number("8:2:1;{>~%;}{}", 7);
        number("8:2:1;{>(%+1);}{}", 7);
        number("8:2:1;{>(1+%);}{}", 7);
        number("8:2:1;{>(1<%);}{}", 7);
        number("8:2:1;{>K(%);}{}", 0);
        number("8:2:1;{>K(0+%);}{}", 0);
        number("8:2:1;{>1;>S(%);}{}", 0);
        number("8:2:1;{}{A^=%;}", 7);
        number("8:2:1;{}{A+=%;}", 7);
        number("8:2:1;{}{A-=%;}", 7);
        number("8:2:1;{}{A*=%;}", 7);
        number("8:2:1;{}{A<%;}", 7);
        number("8:2:1;#*1+0;{}{A#%;}", 0);
        number("8:2:1;{}{A@%;}", 7);
        number("8:2:1;{}{A@1,2,%;}", 7);
        // before a LETTER of an index there may be no number too
        check.fine("8:2:1;{i1[>K(i);>K(0i);>K(999999999i);]}{}");
        check.fault(1, "8:2:1;{i1[>K(000000000!0i);]}{}");
    }

    private static void anyNumberOfThings() {
        check.sentence(TEXT,
            "(TABLE*, WRITING*, STEP*, such things*, (, number)* and (+ TERM)* are any number of "
            + "these, none too");
        check.fine("8:2:1;{}{}");
        check.fine("8:2:1;{i1[]}{j1[]}");
        check.fine("8:2:1;{i1[j1[]]}{j1[i1[]]}");
        check.fine("8:2:1;{i1[>1;>2;j1[>3;>4;]>5;]>6;}{j1[A<1;B<1;i1[A<1;B<1;]A<1;]B<1;}");
        check.fine("8:2:1;{>K(0);}{A@0;}");
        check.fine("8:2:1;{>K(0+0);}{A@0,0,0;}");
        check.fine("8:2:1;{>K(0" + "+0".repeat(111) + ");}{}");
        check.fine("8:2:1;{" + ">1;".repeat(32) + "}{" + "A<1;".repeat(33) + "}");
        check.large("8:2:1;{" + ">1;".repeat(76) + "}{}");
        check.fine("8:2:1;{" + "i1[]".repeat(57) + "}{}");
        check.fine("8:2:1;{}{" + "j1[]".repeat(57) + "}");
        check.fine("8:2:1;{}{i1[" + "j1[]".repeat(56) + "]}");
        CipherNotation subkeys = Check.running("8:2:1;{" + "i1[j1[>1;]]".repeat(20) + "}{}");
        check.due("subkeys in loops of their own", subkeys.number(4), 20);
        CipherNotation steps = Check.running("8:2:1;{}{" + "i1[j1[A<1;]]".repeat(19) + "}");
        check.due("steps in loops of their own", steps.number(5), 19);
        CipherNotation x = Check.running("8:2:1;{}{i16[" + "j16[]".repeat(43) + "]A+=9;}");
        x.encrypt();
        check.due("A by the step behind many turns of nothing", x.word(0), 9);
    }

    private static void signsThatAreNoStars() {
        check.sentence(TEXT, "all other brackets and * are signs of the text)");
        check.fault(1, "8:2:1;#1!+0;{}{}");
        check.fault(1, "8:2:1;#*!*1+0;{}{}");
        check.fault(1, "8:2:1;!>1;}{}");
        check.fault(1, "8:2:1;{>1;!{}");
        check.fault(1, "8:2:1;{>1;}!A<1;}");
        check.fault(1, "8:2:1;{}{A<1;!");
        check.fault(1, "8:2:1;{i1!>1;]}{}");
        check.fault(1, "8:2:1;{i1[>1;!}{}");
        check.fault(1, "8:2:1;{>K!0);}{}");
        check.fault(1, "8:2:1;{>K(0!;}{}");
        check.fault(1, "8:2:1;{>1!+1);}{}");
        check.fault(1, "8:2:1;{>(1+1!;}{}");
        check.fault(1, "8:2:1;{>(1!);}{}");
        check.fault(1, "8:2:1;{}{A!=1;}");
        check.fine("8:2:1;#*1+0;{i1[>(K(0)*1);]}{A*=1;}");
    }

    private static void order() {
        check.sentence(DESCRIPTION, "number : number : number ; TABLE* { WRITING* } { STEP* }");
        check.fault(1, "8:2!;{}{}");
        check.fault(1, "8:2:1!:1;{}{}");
        check.fault(1, "!#*1+0;8:2:1;{}{}");
        check.fault(1, "8:2:1;{}!#*1+0;{}");
        check.fault(1, "8:2:1;{}{}!#*1+0;");
        check.fault(1, "8:2:1;{!A<1;}{}");
        check.fault(1, "8:2:1;{}{!>1;}");
        check.fault(1, "8:2:1;{}{}!{}");
        check.fault(1, "8:2:1;{}{}!;");
        check.fault(1, "8:2:1;{}!");
        follows("", DIGITS);
        follows("16", DIGITS + ":");
        follows("16:", DIGITS);
        follows("16:2", DIGITS + ":");
        follows("16:2:", DIGITS);
        follows("16:2:1", DIGITS + ";");
        follows(HEAD, "#{");
        follows(HEAD + "{}", "{");
        follows(HEAD + "{}{}", "");
    }

    /** Of all signs just these may stand behind the beginning of a description. */
    private static void follows(String beginning, String signs) {
        int length = beginning.length();
        for (char sign = 33; sign <= 126; sign++) {
            CipherNotation x = new CipherNotation();
            boolean isBeginning = Check.compile(x, beginning + sign) != 1 || x.place() > length;
            check.due(sign + " behind " + beginning, isBeginning ? 1 : 0, signs.indexOf(sign) >= 0 ? 1 : 0);
            if (!isBeginning) {
                check.due("place() of " + sign + " behind " + beginning, x.place(), length);
            }
        }
    }

    private static void atMostTwoTables() {
        check.sentence(DESCRIPTION, "TABLE, at most two of them:");
        check.fine("8:2:1;{}{}");
        check.fine("8:2:1;#*1+0;{}{}");
        check.fine("8:2:1;#*1+0;#0123456789abcdef;{}{}");
        check.fault(1, "8:2:1;#*1+0;#0123456789abcdef;!#*1+0;{}{}");
        follows(HEAD + "#*3+1;", "#{");
        follows(HEAD + "#*3+1;#*3+1;", "{");
        follows(HEAD + "#0123456789abcdef;#0123456789abcdef;", "{");
    }

    private static void sixteenCharacters() {
        check.sentence(DESCRIPTION, "# sixteen of the characters 0 .. 9 and a .. f ;");
        String digits = DIGITS + "abcdef";
        for (int count = 1; count < 16; count++) {
            follows(HEAD + "#" + digits.substring(0, count), digits);
            follows(HEAD + "#" + digits.substring(16 - count), digits);
        }
        follows(HEAD + "#" + digits, ";");
        follows(HEAD + "#0000000000000000", ";");
        check.fine("8:2:1;#0000000000000000;#ffffffffffffffff;{}{}");
    }

    private static void tablesByRule() {
        check.sentence(DESCRIPTION, "or   # * number + number ;");
        follows(HEAD + "#", DIGITS + "abcdef*");
        follows(HEAD + "#*", DIGITS);
        follows(HEAD + "#*3", DIGITS + "+");
        follows(HEAD + "#*3+", DIGITS);
        follows(HEAD + "#*3+1", DIGITS + ";");
    }

    private static void writings() {
        check.sentence(DESCRIPTION, "WRITING:   > EXPRESSION ;      or a loop of WRITINGS.");
        follows(HEAD + "{", ">ij}");
        follows(HEAD + "{>1", DIGITS + ";");
        follows(HEAD + "{>1;", ">ij}");
        follows(HEAD + "{i1[", ">ij]");
        follows(HEAD + "{i1[>1;", ">ij]");
    }

    private static void steps() {
        check.sentence(DESCRIPTION,
            "STEP:   STATE then one of   ^= EXPRESSION ;   += EXPRESSION ;   -= EXPRESSION ;   *= "
            + "number ;   < number ;   < STATE ;   : STATE ;   # number ;   @ number (, number)* ;");
        follows(STEPS, "ABCDij}");
        follows(STEPS + "A", "^+-*<:#@");
        for (String sign : new String[] {"^", "+", "-"}) {
            follows(STEPS + "A" + sign, "=");
            follows(STEPS + "A" + sign + "=", EXPRESSION);
            follows(STEPS + "A" + sign + "=B", ";");
        }
        follows(STEPS + "A*", "=");
        follows(STEPS + "A*=", DIGITS);
        follows(STEPS + "A*=1", DIGITS + ";");
        follows(STEPS + "A<", DIGITS + "ABCD");
        follows(STEPS + "A<1", DIGITS + ";");
        follows(STEPS + "A<B", ";");
        follows(STEPS + "A:", "ABCD");
        follows(STEPS + "A:B", ";");
        follows(STEPS + "A#", DIGITS);
        follows(STEPS + "A#0", DIGITS + ";");
        follows(STEPS + "A<1;", "ABCDij}");
    }

    private static void atMostFiveNumbers() {
        check.sentence(DESCRIPTION, "@ number (, number)* ; with at most five numbers");
        follows(STEPS + "A@", DIGITS);
        for (int count = 1; count < 5; count++) {
            follows(STEPS + "A@1" + ",1".repeat(count - 1), DIGITS + ",;");
            follows(STEPS + "A@1" + ",1".repeat(count - 1) + ",", DIGITS);
        }
        follows(STEPS + "A@1,1,1,1,1", DIGITS + ";");
        check.fine(STEPS + "A@1;A@1,2,3;A@1,2,3,4,5;}");
    }

    private static void loops() {
        check.sentence(DESCRIPTION, "A LOOP of such things:   LETTER number [ such things* ]");
        follows(HEAD + "{i", DIGITS);
        follows(HEAD + "{i1", DIGITS + "[");
        follows(HEAD + "{i1[]", ">ij}");
        follows(STEPS + "j", DIGITS);
        follows(STEPS + "j1", DIGITS + "[");
        follows(STEPS + "j1[]", "ABCDij}");
        check.fault(1, "8:2:1;{i1[!A<1;]}{}");
        check.fault(1, "8:2:1;{}{i1[!>1;]}");
        check.fault(1, "8:2:1;{!]}{}");
        check.fault(1, "8:2:1;{i1[]!]}{}");
        check.fault(1, "8:2:1;{i1[!}{]}");
    }

    private static void names() {
        check.sentence(DESCRIPTION, "STATE: A, B, C or D.   LETTER: i or j.");
        check.fault(1, "8:4:1;{}{!E<1;}");
        check.fault(1, "8:4:1;{}{A:!E;}");
        check.fault(1, "8:4:1;{}{A<!E;}");
        check.fault(1, "8:4:1;{}{A^=!E;}");
        check.fault(1, "8:4:1;{}{!@<1;}");
        check.fault(1, "8:4:1;{!h1[]}{}");
        check.fault(1, "8:4:1;{!k1[]}{}");
        check.fault(1, "8:4:1;{>!k;}{}");
        check.fault(1, "8:4:1;{>K(!k);}{}");
        check.fault(1, "8:4:1;{>K(1!h);}{}");
        check.fine("8:4:1;{i1[>i;]j1[>j;]}{A<1;B<1;C<1;D<1;}");
    }

    private static void atMostTwoLoops() {
        check.sentence(DESCRIPTION, "At most two loops are open one inside the other.");
        follows(HEAD + "{i1[j1[", ">]");
        follows(HEAD + "{i1[j1[>1;", ">]");
        follows(HEAD + "{i1[j1[]", ">ij]");
        follows(STEPS + "i1[", "ABCDij]");
        follows(STEPS + "i1[j1[", "ABCD]");
        follows(STEPS + "i1[j1[A<1;", "ABCD]");
        follows(STEPS + "i1[j1[]", "ABCDij]");
        follows(STEPS + "i1[j1[]]", "ABCDij}");
        check.fine("8:2:1;{i1[j1[]j1[]j1[]]i1[]j1[i1[]i1[]]}{i1[j1[]j1[]j1[]]i1[]j1[i1[]i1[]]}");
    }

    private static void expressions() {
        check.sentence(DESCRIPTION,
            "EXPRESSION:   STATE   K INDEX   S INDEX   number   LETTER   ~ EXPRESSION   ( EXPRESSION "
            + "OP EXPRESSION )   ( EXPRESSION < number )      OP: one of ^ & | + - *.");
        follows(HEAD + "{>", EXPRESSION);
        follows(HEAD + "{>A", ";");
        follows(HEAD + "{>i", ";");
        follows(HEAD + "{>~", EXPRESSION);
        follows(HEAD + "{>~A", ";");
        follows(HEAD + "{>(", EXPRESSION);
        follows(HEAD + "{>(A", BEHIND_A_PART);
        follows(HEAD + "{>(1", DIGITS + BEHIND_A_PART);
        follows(HEAD + "{>(~A", BEHIND_A_PART);
        follows(HEAD + "{>((A+B)", BEHIND_A_PART);
        follows(HEAD + "{>(A<", DIGITS);
        follows(HEAD + "{>(A<1", DIGITS + ")");
        follows(HEAD + "{>(A<1)", ";");
        for (char sign : "^&|+-*".toCharArray()) {
            follows(HEAD + "{>(A" + sign, EXPRESSION);
            follows(HEAD + "{>(A" + sign + "B", ")");
        }
        follows(HEAD + "{>(A+B)", ";");
    }

    private static void atMostTwelveOpen() {
        check.sentence(DESCRIPTION,
            "At most twelve of ~ and ( (those of an INDEX not counted) are open, one inside the other, "
            + "in an expression.");
        String leaves = DIGITS + "ABCDKSij";
        for (int tildes = 0; tildes <= 12; tildes++) {
            String open = "~".repeat(tildes) + "(".repeat(12 - tildes);
            follows(HEAD + "{>" + open.substring(1), EXPRESSION);
            follows(HEAD + "{>" + open, leaves);
            follows(STEPS + "A^=" + open, leaves);
        }
        // behind a part that is whole there is room again
        follows(HEAD + "{>" + "(".repeat(12) + "A+", leaves);
        follows(HEAD + "{>" + "(".repeat(11) + "~A+", EXPRESSION);
        follows(HEAD + "{>" + "(".repeat(12) + "A+B)+", EXPRESSION);
        follows(HEAD + "{>" + "(A+".repeat(11), EXPRESSION);
        follows(HEAD + "{>" + "(A+".repeat(12), leaves);
        check.fine("8:2:1;{>" + "~".repeat(12) + "K(0+0);>" + "~".repeat(12) + "S(0);}{}");
        check.fine("8:2:1;{>" + "(".repeat(12) + "K(0)" + "+1)".repeat(12) + ";}{}");
        check.fine("8:2:1;{>" + "(K(0)^".repeat(12) + "K(0)" + ")".repeat(12) + ";}{}");
        check.fine("8:2:1;{>(" + "~".repeat(11) + "1+" + "~".repeat(11) + "1);>" + "~".repeat(12) + "1;}{}");
    }

    private static void indexes() {
        check.sentence(DESCRIPTION, "INDEX:   ( TERM (+ TERM)* )      TERM:   number   LETTER   number LETTER");
        for (String part : new String[] {"K", "S"}) {
            follows(HEAD + "{>" + part, "(");
            follows(HEAD + "{>" + part + "(", TERM);
            follows(HEAD + "{>" + part + "(1", TERM + "+)");
            follows(HEAD + "{>" + part + "(i", "+)");
            follows(HEAD + "{>" + part + "(1j", "+)");
            follows(HEAD + "{>" + part + "(1+", TERM);
            follows(HEAD + "{>" + part + "(1i+2", TERM + "+)");
            follows(HEAD + "{>" + part + "(1)", ";");
            follows(HEAD + "{>(" + part + "(1)", BEHIND_A_PART);
        }
    }
}

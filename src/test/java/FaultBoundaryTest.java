/** The boundary cases that, of the terms, the faults and their places name. */
public final class FaultBoundaryTest {
    private static final Check check = new Check("FaultBoundaryTest");
    private static final String FAULTS = "Terms, faults";
    private static final String MEANING = "Terms, what it means";
    private static final int[] WIDTHS = {8, 16, 32, 64};
    /** A description with every sign there is. */
    private static final String WHOLE = "16:3:2;#63f1b2c4d5e7980a;#*5+03;{i4[>((K(0)+(i*40503))<3);j2[>~S(i+j);]]}"
        + "{A^=((B|C)&1);i2[B-=~K(i);C@1,2,3;j3[A<C;A*=5;A#1;]]A:B;C+=(A-3);}";

    public static void main(String[] args) {
        places();
        notTheBeginning();
        numberOfCharacters();
        limits();
        descriptionFirst();
        byPlaces();
        byCodes();
        widths();
        stateWords();
        keyWords();
        numbersOfExpressions();
        numbersOfIndexesAreFree();
        bits();
        numbersOfTables();
        turns();
        keyIndexes();
        subkeyIndexesOfWritings();
        subkeyIndexesOfSteps();
        someTurn();
        indexesWithoutLoops();
        loopsAboveSixteen();
        indexesBeforeLoops();
        statesBeyond();
        statesInWritings();
        letters();
        loopsOfTheSame();
        tablesNotThere();
        sameState();
        evenFactors();
        tablesWithTwice();
        evenCounts();
        withoutAnyOfThese();
        manySubkeys();
        manyInstructions();
        manyRegisters();
        check.end();
    }

    private static void places() {
        check.sentence(FAULTS, "FAULTS have a code and a PLACE, the number of a character from 0 on, blanks counted.");
        check.faultAt(0, 1, "x");
        check.faultAt(0, 2, "9:2:1;{}{}");
        check.faultAt(1, 1, " x");
        check.faultAt(3, 2, "   9:2:1;{}{}");
        check.faultAt(16, 3, "8 : 2 : 1 ; { > 256;}{}");
        check.faultAt(239, 1, "8:2:1;{}{}" + " ".repeat(229) + "x");
        check.fault(5, "8:2:1;{}{" + " ".repeat(224) + "!A<A; }");
        check.fault(4, " 8 :2: 1;{ }{A :  !C; }");
    }

    private static void notTheBeginning() {
        check.sentence(FAULTS,
            "code 1, at the least place p for which the characters up to and with that at p are not "
            + "the beginning of any description, however long");
        // what would have more than 240 characters is a description too
        check.faultAt(240, 1, "8:2:1;{" + ">1;".repeat(77) + "}{");
        check.faultAt(240, 1, "8:2:1;" + " ".repeat(233) + "#");
        check.faultAt(240, 1, "8:2:1;{}{" + " ".repeat(230) + "A");
        check.faultAt(240, 1, "8:2:1;{>" + " ".repeat(220) + "~".repeat(12));
        check.faultAt(239, 1, "8:2:1;{" + ">1;".repeat(77) + "};");
        check.faultAt(239, 1, "8:2:1;" + " ".repeat(233) + ">");
        // the first one counts, whatever stands behind it
        check.fault(1, "8:2:1;{!x}}}{}x");
        check.fault(1, "!x8:2:1;{}{}");
    }

    private static void numberOfCharacters() {
        check.sentence(FAULTS, "(the number of characters, if there is none such)");
        check.faultAt(0, 1, "");
        check.faultAt(1, 1, " ");
        check.faultAt(9, 1, "8:2:1;{}{");
        check.faultAt(12, 1, "8:2:1;{}{   ");
        check.fine(WHOLE);
        for (int length = 0; length < WHOLE.length(); length++) {
            check.faultAt(length, 1, WHOLE.substring(0, length));
            check.faultAt(length + 2, 1, WHOLE.substring(0, length) + "  ");
        }
    }

    private static void limits() {
        check.sentence(FAULTS,
            "(by its limits, too: a tenth digit, a third TABLE at its #, a sixth number at its comma, "
            + "a third loop within two at its LETTER, a thirteenth ~ or (, each at that sign)");
        check.fault(1, "000000008!0:2:1;{}{}");
        check.fault(1, "8:2:1;{>000000000!1;}{}");
        check.fault(1, "8:2:1;#*1+0;#*1+0;!#*1+0;{}{}");
        check.fault(1, "8:2:1;#*1+0;#*1+0; !#");
        check.fault(1, "8:2:1;{}{A@1,1,1,1,1!,1;}");
        check.fault(1, "8:2:1;{}{A@1,1,1,1,1 !,");
        check.fault(1, "8:2:1;{i1[j1[!i1[]]]}{}");
        check.fault(1, "8:2:1;{}{i1[j1[ !j1[]]]}");
        check.fault(1, "8:2:1;{}{i1[j1[A<1;!i");
        check.fault(1, "8:2:1;{>" + "~".repeat(12) + "!~1;}{}");
        check.fault(1, "8:2:1;{>" + "(".repeat(12) + "!(1;}{}");
        check.fault(1, "8:2:1;{>" + "(~".repeat(6) + "!(1;}{}");
        check.fault(1, "8:2:1;{>" + "~(".repeat(6) + "!~1;}{}");
    }

    private static void descriptionFirst() {
        check.sentence(FAULTS,
            "If the text is no description [..]: code 1 [..] Otherwise the first that there is of the "
            + "following");
        check.fault(1, "9:5:5;{}{!");
        check.fault(1, "8:2:1;{>256;}{!x");
        check.fault(1, "8:2:1;{>A;}{!x");
        check.fault(1, "8:2:1;{}{A^=A;!x");
        check.fault(1, "8:2:1;{i16[j16[>1;]]}{!x");
        check.fault(1, "8:2:1;{}{A#!x;}");
    }

    private static void byPlaces() {
        check.sentence(FAULTS, "Otherwise the first that there is of the following, by their places");
        check.fault(2, "!9:5:5;{>256;}{}");
        check.fault(2, "8:!5:5;{>256;}{}");
        check.fault(2, "8:2:!5;{>256;}{}");
        check.fault(4, "8:2:1;{>(!A+256);}{}");
        check.fault(3, "8:2:1;{>(!256+A);}{}");
        check.fault(3, "8:2:1;{>!K(1);}{A^=A;C<1;}");
        check.fault(5, "8:2:1;{}{!A^=A;C<1;A<8;}");
        check.fault(4, "8:2:1;{}{!C<1;A^=A;A<8;}");
        check.fault(3, "8:2:1;{}{A<!8;C<1;A^=A;}");
        // a step's own fault 5 stands at its beginning, before all that is in it
        check.fault(5, "8:2:1;{}{!A^=(A+256);}");
        check.fault(5, "8:2:1;{}{!A^=(C+A);}");
        check.fault(5, "8:2:1;{}{!A^=(K(1)+A);}");
        check.fault(5, "8:2:1;{}{!A*=256;}");
        check.fault(3, "8:2:1;{}{A*=!257;}");
        check.fault(5, "8:2:1;{}{!A@8,8;}");
        check.fault(3, "8:2:1;{}{A@!8,8,8;}");
        // an index that is too great is found late, but stands where its K or S does
        check.fault(3, "8:2:1;{i2[>!S(0);>A;]}{}");
        check.fault(4, "8:2:1;{i2[>!A;>S(9);]}{}");
        check.fault(3, "8:2:1;{i2[>(1+!S(9));>256;]}{}");
        check.fault(3, "8:2:1;{}{A^=(!S(0)+C);}");
    }

    private static void byCodes() {
        check.sentence(FAULTS, "and at one place by their codes");
        check.fault(4, "8:2:1;{}{!C^=C;}");
        check.fault(4, "8:2:1;{}{!D<D;}");
        check.fault(4, "8:2:1;{}{!C*=2;}");
        check.fault(4, "8:2:1;#*2+0;{}{!C#0;}");
        check.fault(4, "8:2:1;{}{!C@1,1;}");
    }

    private static void widths() {
        check.sentence(FAULTS,
            "2: at the first character of the first number: that is not 8, 16, 32 or 64 (it is the "
            + "WIDTH w)");
        for (int width = 0; width <= 130; width++) {
            if (width == 8 || width == 16 || width == 32 || width == 64) {
                check.fine(width + ":2:1;{}{}");
                check.due("number(0)", Check.running(width + ":2:1;{}{}").number(0), width);
            } else {
                check.fault(2, "!" + width + ":2:1;{}{}");
            }
        }
        check.fault(2, "!999999999:2:1;{}{}");
        check.fault(2, "  !007:2:1;{}{}");
        check.fine("  0064:2:1;{}{}");
    }

    private static void stateWords() {
        check.sentence(FAULTS, "of the second: not 2 .. 4 (the number of STATE WORDS)");
        for (int states = 0; states <= 9; states++) {
            if (states >= 2 && states <= 4) {
                check.due("number(1)", Check.running("8:" + states + ":1;{}{}").number(1), states);
            } else {
                check.fault(2, "8:!" + states + ":1;{}{}");
            }
        }
        check.fault(2, "8: !001:1;{}{}");
        check.fault(2, "8:!999999999:1;{}{D<1;}");
    }

    private static void keyWords() {
        check.sentence(FAULTS, "of the third: not 1 .. 4 (the number of KEY WORDS).");
        for (int keys = 0; keys <= 9; keys++) {
            if (keys >= 1 && keys <= 4) {
                check.due("number(2)", Check.running("8:2:" + keys + ";{}{}").number(2), keys);
            } else {
                check.fault(2, "8:2:!" + keys + ";{}{}");
            }
        }
        check.fault(2, "8:2: !005;{}{}");
        check.fault(2, "8:2:!999999999;{>K(9);}{}");
    }

    private static void numbersOfExpressions() {
        check.sentence(FAULTS,
            "3: at the first character of a number: in an expression (not in an index, not behind <) "
            + "or behind *= it is 2 to the w or more");
        String[] texts = {"{>%;}{}", "{>~%;}{}", "{>(%+1);}{}", "{>(1-%);}{}", "{>(%<1);}{}", "{i2[>((1*%)|2);]}{}",
            "{}{A^=%;}", "{}{A+=(B&~%);}", "{}{i2[A-=(%^1);]}", "{}{A*=%;}"};
        for (String text : texts) {
            check.fine("8:2:1;" + text.replace("%", "255"));
            check.fine("8:2:1;" + text.replace("%", "000255"));
            check.fault(3, "8:2:1;" + text.replace("%", "!257"));
            check.fault(3, "8:2:1;" + text.replace("%", "!000257"));
            check.fine("16:2:1;" + text.replace("%", "65535"));
            check.fault(3, "16:2:1;" + text.replace("%", "!65537"));
            check.fine("32:2:1;" + text.replace("%", "999999999"));
            check.fine("64:2:1;" + text.replace("%", "999999999"));
            if (!text.contains("*=")) {
                check.fault(3, "8:2:1;" + text.replace("%", "!256"));
                check.fault(3, "16:2:1;" + text.replace("%", "!65536"));
            }
        }
        // 2 to the w itself is even, so behind *= its fault 5 stands first
        check.fault(5, "8:2:1;{}{!A*=256;}");
    }

    private static void numbersOfIndexesAreFree() {
        check.sentence(FAULTS, "(not in an index, not behind <)");
        check.fine("8:2:1;{i1[>K(256i);]}{}");
        check.fine("8:2:1;{i1[>K(999999999i+0);]}{}");
        check.fault(3, "8:2:1;{>!K(256);}{}");
        check.fault(3, "64:2:1;{>(1<!64);}{}");
    }

    private static void bits() {
        check.sentence(FAULTS, "behind <, or behind @ or a comma, it is w or more");
        String[] texts = {"{>(1<%);}{}", "{>~(K(0)<%);}{}", "{}{A^=(B<%);}", "{}{A<%;}", "{}{i2[B<%;]}", "{}{A@%;}",
            "{}{A@%,1,2;}", "{}{A@1,%,2;}", "{}{A@1,2,%;}", "{}{A@0,0,0,0,%;}"};
        for (String text : texts) {
            for (int width : WIDTHS) {
                String head = width + ":2:1;";
                check.fine(head + text.replace("%", "0"));
                check.fine(head + text.replace("%", "0" + (width - 1)));
                check.fault(3, head + text.replace("%", "!" + width));
                check.fault(3, head + text.replace("%", "!00" + width));
                check.fault(3, head + text.replace("%", "!999999999"));
            }
        }
    }

    private static void numbersOfTables() {
        check.sentence(FAULTS, "in a table it is more than 15");
        for (String text : new String[] {"#*%+1;", "#*1+%;", "#*1+0;#*%+1;", "#0000000000000000;#*1+%;"}) {
            check.fine("64:2:1;" + text.replace("%", "0") + "{}{}");
            check.fine("64:2:1;" + text.replace("%", "0015") + "{}{}");
            check.fault(3, "64:2:1;" + text.replace("%", "!16") + "{}{}");
            check.fault(3, "64:2:1;" + text.replace("%", "!016") + "{}{}");
            check.fault(3, "64:2:1;" + text.replace("%", "!999999999") + "{}{}");
        }
        check.fault(3, "8:2:1;#*!16+16;{}{}");
    }

    private static void turns() {
        check.sentence(FAULTS, "behind the LETTER of a loop it is not 1 .. 16.");
        String[] texts = {"{i%[]}{}", "{i%[>1;]}{}", "{i1[j%[>1;]]}{}", "{}{j%[]}", "{}{j%[A<1;]}", "{}{j2[i%[A<1;]]}"};
        for (String text : texts) {
            check.fault(3, "8:2:1;" + text.replace("%", "!0"));
            check.fault(3, "8:2:1;" + text.replace("%", "!000"));
            check.fine("8:2:1;" + text.replace("%", "1"));
            check.fine("8:2:1;" + text.replace("%", "016"));
            check.fault(3, "8:2:1;" + text.replace("%", "!17"));
            check.fault(3, "8:2:1;" + text.replace("%", "!999999999"));
        }
    }

    private static void keyIndexes() {
        check.sentence(FAULTS,
            "At the K or S before an index all of whose LETTERS are those of open loops: in some turn "
            + "of these it is too great", "K");
        for (int keys = 1; keys <= 4; keys++) {
            String head = "8:2:" + keys + ";";
            check.fine(head + "{>K(" + (keys - 1) + ");}{A^=K(" + (keys - 1) + ");}");
            check.fault(3, head + "{>!K(" + keys + ");}{}");
            check.fault(3, head + "{}{A^=(1+!K(" + keys + "));}");
            check.fine(head + "{i" + keys + "[>K(i);]}{j" + keys + "[A^=K(j);]}");
            check.fault(3, head + "{i" + (keys + 1) + "[>!K(i);]}{}");
            check.fault(3, head + "{}{j" + (keys + 1) + "[A^=~!K(j);]}");
        }
        check.fault(3, "8:2:1;{ >  !K ( 1 ) ; }{}");
        check.fault(3, "8:2:4;{>(K(3)+!K(4));}{}");
        check.fault(3, "8:2:4;{>(!K(4)+K(5));}{}");
    }

    private static void subkeyIndexesOfWritings() {
        check.sentence(FAULTS,
            "At the K or S before an index all of whose LETTERS are those of open loops: in some turn "
            + "of these it is too great", "S, in a WRITING");
        check.fault(3, "8:2:1;{>!S(0);}{}");
        check.fault(3, "8:2:1;{>!S(0);>1;>1;}{}");
        check.fine("8:2:1;{>1;>S(0);}{}");
        check.fault(3, "8:2:1;{>1;>!S(1);}{}");
        check.fine("8:2:1;{i16[>1;]i15[>1;]>S(30);}{}");
        check.fault(3, "8:2:1;{i16[>1;]i15[>1;]>!S(31);}{}");
        check.fault(3, "8:2:1;{i1[>!S(i);]}{}");
        check.fine("8:2:1;{>1;i16[>S(i);]}{}");
        check.fault(3, "8:2:1;{>1;i16[>!S(i+1);]}{}");
        check.fine("8:2:1;{>1;i15[j2[>S(2i+j);]]}{}");
        check.fault(3, "8:2:1;{>1;i15[j2[>!S(2i+j+1);]]}{}");
    }

    private static void subkeyIndexesOfSteps() {
        check.sentence(FAULTS,
            "At the K or S before an index all of whose LETTERS are those of open loops: in some turn "
            + "of these it is too great", "S, in a STEP");
        check.fault(3, "8:2:1;{}{A^=!S(0);}");
        check.fine("8:2:1;{>1;}{A^=S(0);}");
        check.fault(3, "8:2:1;{>1;}{A^=!S(1);}");
        check.fine("8:2:1;{i16[j2[>1;]]}{A^=S(31);i16[A^=S(2i+1);]}");
        check.fault(3, "8:2:1;{i16[j2[>1;]]}{A^=!S(32);}");
        check.fault(3, "8:2:1;{i16[j2[>1;]]}{i16[A^=!S(2i+2);]}");
    }

    private static void someTurn() {
        check.sentence(FAULTS, "in some turn of these it is too great");
        // the first turn alone, the last one alone, the last one of both loops alone
        check.fine("8:2:1;{>1;i4[>S(0);]}{}");
        check.fault(3, "8:2:1;{i4[>!S(0);]}{}");
        check.fault(3, "8:2:1;{>1;i4[>!S(1);]}{}");
        check.fine("8:2:1;{>1;>1;>1;>1;i4[>S(2i);]}{}");
        check.fault(3, "8:2:1;{>1;>1;>1;i4[>!S(2i);]}{}");
        check.fine("8:2:4;{i2[j3[>K(i+j);]]}{}");
        check.fine("8:2:4;{}{i2[j2[A^=K(2i+j);]]}");
        check.fault(3, "8:2:3;{}{i2[j2[A^=!K(2i+j);]]}");
        check.fault(3, "8:2:3;{}{i2[j3[A^=!K(i+j);]]}");
        // in between: the first turn of the outer loop and the last of the inner one, and the other way
        check.fine("8:2:1;{>1;>1;i3[j3[>S(2j);>1;]]}{}");
        check.fault(3, "8:2:1;{>1;>1;i3[j3[>!S(3j);]]}{}");
        check.fault(3, "8:2:1;{>1;i3[j3[>1;]j2[>!S(6i+4);]]}{}");
        check.fine("8:2:1;{>1;i3[j3[>1;]j2[>S(5i+3);]]}{}");
        check.fine("8:2:1;{>1;i3[j3[>1;]j2[>S(5i+3+j);]]}{}");
        check.fault(3, "8:2:1;{>1;i3[j3[>1;]j2[>!S(5i+4);]]}{}");
        check.fault(3, "8:2:1;{>1;i3[j3[>1;]j2[>!S(6i+3);]]}{}");
        check.fault(3, "8:2:1;{>1;i3[j3[>1;]j2[>!S(5i+3+2j);]]}{}");
    }

    private static void indexesWithoutLoops() {
        check.sentence(FAULTS, "an index all of whose LETTERS are those of open loops");
        // without the loop of its LETTER the index is no fault itself, however great
        check.fault(4, "8:2:1;{>K(999!i);}{}");
        check.fault(4, "8:2:1;{>K(999+!i);}{}");
        check.fault(4, "8:2:1;{>S(!j+999);}{}");
        check.fault(4, "8:2:1;{i2[>K(999i+!j);]}{}");
        check.fault(4, "8:2:1;{}{i2[]A^=K(9!i);}");
        check.fault(3, "8:2:1;{i2[>(!K(999i)+j);]}{}");
        check.fault(3, "8:2:1;{>(!K(999)+K(i));}{}");
    }

    private static void loopsAboveSixteen() {
        check.sentence(FAULTS, "(see below; a loop whose number is above 16 counts there as one of 16 turns)");
        // behind the loop's number its own fault stands first
        check.fault(3, "8:2:1;{i!17[>K(i);]}{}");
        check.fault(3, "8:2:4;{i!999999999[j16[>K(i);]]}{}");
        check.fault(3, "8:2:1;{i!999999999[j999999999[>1;]]}{A^=S(255);}");
        check.fault(3, "8:2:1;{}{i!17[A^=K(999999999i);]}");
        check.fault(3, "8:2:1;{}{j16[i!17[A^=S(i);]]}");
        // before it an index shows how many subkeys that loop has written in the turn before: 16 of its turns
        check.large("8:2:1;{>1;i2[>S(17i);j16[>1;]]}{}");
        check.fault(3, "8:2:1;{>1;i2[>!S(18i);j16[>1;]]}{}");
        for (String turns : new String[] {"17", "18", "160", "999999999"}) {
            check.fault(3, "8:2:1;{>1;i2[>S(17i);j!" + turns + "[>1;]]}{}");
            check.fault(3, "8:2:1;{>1;i2[>!S(18i);j" + turns + "[>1;]]}{}");
            check.fault(3, "8:2:1;{>1;j2[>S(33j);i!" + turns + "[>1;>1;]]}{}");
            check.fault(3, "8:2:1;{>1;j2[>!S(34j);i" + turns + "[>1;>1;]]}{}");
        }
    }

    private static void indexesBeforeLoops() {
        check.sentence(MEANING,
            "an index is TOO GREAT when there is no such key word, or, within a WRITING, when not that many and one "
            + "more subkeys were written before", "by a loop behind it, in the turns before");
        for (int outer = 1; outer <= 3; outer++) {
            for (int inner = 0; inner <= 19; inner++) {
                for (int factor = 0; factor <= 36; factor++) {
                    indexBeforeLoop(outer, inner, factor);
                }
            }
        }
        // in a loop of the same LETTER the turns are counted all the same
        check.fault(4, "8:2:1;{>1;i2[>S(3i);!i2[>1;]]}{}");
        check.fault(3, "8:2:1;{>1;i2[>!S(4i);i2[>1;]]}{}");
    }

    /** Two subkeys, then a loop of a WRITING that looks back and a loop of WRITINGS behind it. */
    private static void indexBeforeLoop(int outer, int inner, int factor) {
        String before = "8:2:1;{>1;>1;i" + outer + "[>";
        String between = "S(1+" + factor + "i);j";
        String text = before + between + inner + "[>1;]]}{}";
        int written = 2;
        boolean isTooGreat = false;
        for (int i = 0; i < outer; i++) {
            isTooGreat |= 1 + factor * i >= written;
            written += 1 + Math.min(inner, 16);
        }
        if (isTooGreat) {
            check.faultAt(before.length(), 3, text);
        } else if (inner < 1 || inner > 16) {
            check.faultAt(before.length() + between.length(), 3, text);
        } else if (written > 32) {
            check.large(text);
        } else {
            check.fine(text);
        }
    }

    private static void statesBeyond() {
        check.sentence(FAULTS, "4: at a character that names what is not there: a STATE beyond the state words");
        for (int states = 2; states <= 4; states++) {
            String head = "8:" + states + ":1;{}{";
            char last = (char) ('A' + states - 1);
            check.fine(head + last + "<1;A<" + last + ";A:" + last + ";A^=(" + last + "<1);}");
            char beyond = (char) ('A' + states);
            if (beyond <= 'D') {
                check.fault(4, head + "!" + beyond + "<1;}");
                check.fault(4, head + "A<!" + beyond + ";}");
                check.fault(4, head + "A:!" + beyond + ";}");
                check.fault(4, head + "A+=!" + beyond + ";}");
                check.fault(4, head + "A-=(1+~!" + beyond + ");}");
                check.fault(4, head + "!" + beyond + ":" + beyond + ";}");
            }
        }
    }

    private static void statesInWritings() {
        check.sentence(FAULTS, "or any one within a WRITING");
        for (String state : new String[] {"A", "B", "C", "D"}) {
            check.fault(4, "8:4:1;{>!" + state + ";}{}");
            check.fault(4, "8:4:1;{i2[>(1+~!" + state + ");]}{}");
        }
    }

    private static void letters() {
        check.sentence(FAULTS, "a LETTER that is not that of an open loop, in an expression or index");
        for (String other : new String[] {"ij", "ji"}) {
            String letter = other.substring(0, 1);
            String open = other.substring(1);
            check.fault(4, "8:2:1;{>!" + letter + ";}{}");
            check.fault(4, "8:2:1;{>K(!" + letter + ");}{}");
            check.fault(4, "8:2:1;{>K(0!" + letter + ");}{}");
            check.fault(4, "8:2:1;{" + open + "1[>~!" + letter + ";]}{}");
            check.fault(4, "8:2:1;{" + letter + "1[]>!" + letter + ";}{}");
            check.fault(4, "8:2:1;{" + open + "1[" + letter + "1[>1;]>!" + letter + ";]}{}");
            check.fault(4, "8:2:1;{" + letter + "1[>1;]}{A^=!" + letter + ";}");
            check.fine("8:2:1;{" + letter + "1[" + open + "1[>1;]>" + letter + ";]}{}");
            check.fine("8:2:1;{}{" + letter + "1[A^=" + letter + ";]}");
        }
    }

    private static void loopsOfTheSame() {
        check.sentence(FAULTS, "the LETTER of a loop within a loop of the same");
        check.fault(4, "8:2:1;{i1[!i1[]]}{}");
        check.fault(4, "8:2:1;{i1[>1;!i1[>1;]]}{}");
        check.fault(4, "8:2:1;{}{j1[!j1[]]}");
        check.fault(4, "8:2:1;{}{j1[i1[]!j1[]]}");
        check.fault(4, "8:2:1;{i1[!i17[>K(9);]]}{}");
        check.fine("8:2:1;{i1[]i1[j1[]j1[]]}{i1[]i1[]j1[i1[]]}");
    }

    private static void tablesNotThere() {
        check.sentence(FAULTS,
            "at the first character of the number behind # of a step, when there is no table with that "
            + "number (0, 1).");
        check.fault(4, "8:2:1;{}{A#!0;}");
        check.fault(4, "8:2:1;{}{A#!1;}");
        check.fine("8:2:1;#*1+0;{}{A#0;}");
        check.fault(4, "8:2:1;#*1+0;{}{A#!1;}");
        check.fault(4, "8:2:1;#*1+0;{}{A# !001;}");
        check.fine("8:2:1;#*1+0;#*1+0;{}{A#0;A#01;}");
        check.fault(4, "8:2:1;#*1+0;#*1+0;{}{A#!2;}");
        check.fault(4, "8:2:1;#*1+0;#*1+0;{}{A#!999999999;}");
        // a table that cannot be undone is not the one that is asked for
        check.fault(4, "8:2:1;#*2+0;{}{A#!1;}");
    }

    private static void sameState() {
        check.sentence(FAULTS,
            "5: at the STATE with which a step begins, when it cannot be undone: the same STATE stands "
            + "in its expression, or behind its <");
        for (char state = 'A'; state <= 'D'; state++) {
            for (String sign : new String[] {"^=", "+=", "-="}) {
                check.fault(5, "8:4:1;{}{!" + state + sign + state + ";}");
                check.fault(5, "8:4:1;{}{i2[!" + state + sign + "(0&~(" + state + "<1));]}");
                check.fault(5, "8:4:1;{}{ !" + state + " " + sign + "((1+K(0))*" + state + ");}");
                for (char other = 'A'; other <= 'D'; other++) {
                    if (other != state) {
                        check.fine("8:4:1;{}{" + state + sign + "~" + other + ";}");
                    }
                }
            }
            check.fault(5, "8:4:1;{}{!" + state + "<" + state + ";}");
        }
        check.fine("8:4:1;{}{A<B;B<A;C<D;D<C;A<D;}");
        // exchanging a word with itself is undone by itself
        check.fine("8:4:1;{}{A:A;D:D;}");
    }

    private static void evenFactors() {
        check.sentence(FAULTS, "the number behind *= is even");
        check.fault(5, "8:2:1;{}{!A*=0;}");
        check.fine("8:2:1;{}{A*=1;}");
        check.fault(5, "8:2:1;{}{!A*=2;}");
        check.fault(5, "8:2:1;{}{!A*=254;}");
        check.fine("8:2:1;{}{A*=255;}");
        check.fault(5, "64:2:1;{}{!A*=999999998;}");
        check.fine("64:2:1;{}{A*=999999999;}");
    }

    private static void tablesWithTwice() {
        check.sentence(FAULTS, "the table behind # has a number twice");
        check.fault(5, "8:2:1;#0123456789abcdee;{}{!A#0;}");
        check.fault(5, "8:2:1;#0023456789abcdef;{}{!A#0;}");
        check.fault(5, "8:2:1;#f123456789abcdef;{}{!A#0;}");
        check.fine("8:2:1;#fedcba9876543210;{}{A#0;}");
        for (int factor = 0; factor < 16; factor++) {
            String head = "8:2:1;#*" + factor + "+15;#*1+0;{}{B#1;";
            if (factor % 2 == 0) {
                check.fault(5, head + "!A#0;}");
            } else {
                check.fine(head + "A#0;}");
            }
        }
        // such a table may be there when no step takes it
        check.fine("8:2:1;#0000000000000000;#*1+0;{}{A#1;}");
        check.fault(5, "8:2:1;#*1+0;#0000000000000000;{}{A#0;!A#1;}");
    }

    private static void evenCounts() {
        check.sentence(FAULTS, "there are an even number of numbers behind @ and its commas.");
        for (int count = 1; count <= 5; count++) {
            String numbers = "3" + ",3".repeat(count - 1);
            if (count % 2 == 0) {
                check.fault(5, "8:2:1;{}{!A@" + numbers + ";}");
            } else {
                check.fine("8:2:1;{}{A@" + numbers + ";}");
            }
        }
        check.fault(5, "8:2:1;{}{!A@0,1;}");
        check.fault(5, "8:2:1;{}{!A@1,2,3,4;}");
    }

    private static void withoutAnyOfThese() {
        check.sentence(FAULTS, "Without any of these, code 6, with the place NONE");
        check.large("8:2:1;{i16[j16[>1;]]}{}");
        check.fault(5, "8:2:1;{i16[j16[>1;]]}{!A^=A;}");
        check.fault(4, "8:2:1;{i16[j16[>1;]]}{!C<1;}");
        check.fault(3, "8:2:1;{i16[j16[>1;]]}{A<!8;}");
        check.fault(3, "8:2:1;{i16[j16[>1;]]}{A^=!S(256);}");
        check.large("8:2:1;{i16[j16[>1;]]}{A^=S(255);}");
        check.fault(2, "!7:2:1;{i16[j16[>1;]]}{}");
    }

    private static void manySubkeys() {
        check.sentence(FAULTS, "more than 32 SUBKEYS would be written");
        check.fine("8:2:1;{i16[j2[>1;]]}{}");
        check.large("8:2:1;{i16[j2[>1;]]>1;}{}");
        check.fine("8:2:1;{i16[>1;]i15[>1;]>1;}{}");
        check.large("8:2:1;{i16[>1;]i15[>1;]>1;>1;}{}");
        check.fine("8:2:1;{" + ">1;".repeat(32) + "}{}");
        check.large("8:2:1;{" + ">1;".repeat(33) + "}{}");
        check.large("8:2:1;{i11[j3[>1;]]}{}");
    }

    private static void manyInstructions() {
        check.sentence(FAULTS, "the code would have more than 400 INSTRUCTIONS");
        check.fine("8:2:1;{}{i16[j5[A<1;A<1;A<1;A<1;A<1;]]}");
        check.large("8:2:1;{}{i16[j5[A<1;A<1;A<1;A<1;A<1;]]A<1;}");
        check.fine("8:2:1;{}{i16[j12[A^=1;]A<1;]}");
        check.large("8:2:1;{}{i16[j12[A^=1;]A<1;]B<1;}");
        check.fine("8:2:1;{}{i8[j10[A^=(B+~~K(0));]]}");
        check.large("8:2:1;{}{i8[j10[A^=(B+~~K(0));]]A:B;}");
        check.fine("8:2:1;{i16[>1;]>~~K(0);}{i14[j13[A+=5;]]}");
        check.large("8:2:1;{i16[>1;]>~~K(0);}{i14[j13[A+=5;]]A@1;}");
        check.fine("8:2:1;{i16[j2[>~(K(0)+1);]]}{i15[j16[A<1;]]}");
        check.large("8:2:1;{i16[j2[>~(K(0)+1);]]}{i15[j16[A<1;]]A<1;}");
        check.large("8:2:1;{}{i16[j16[A<1;A<1;]]}");
        check.large("8:2:1;{}{i16[j16[" + "A<1;".repeat(50) + "]]}");
    }

    private static void manyRegisters() {
        check.sentence(FAULTS, "or it would use more than 8 REGISTERS.");
        String two = "(K(0)+K(0))";
        String three = "(" + two + "-" + two + ")";
        String four = "(" + three + "^" + three + ")";
        String five = "(" + four + "|" + four + ")";
        check.fine("8:4:1;{>" + four + ";}{}");
        check.fine("8:4:1;{}{A^=" + four + ";}");
        check.large("8:4:1;{>" + five + ";}{}");
        check.large("8:4:1;{}{A^=" + five + ";}");
        check.fine("8:3:1;{>" + five + ";}{}");
        check.large("8:4:1;{}{i1[A^=B;A^=" + five + ";]A<1;}");
        check.due("number(7)", Check.running("8:4:1;{>" + four + ";}{}").number(7), 8);
        check.due("number(7)", Check.running("8:3:1;{>" + five + ";}{}").number(7), 8);
    }
}

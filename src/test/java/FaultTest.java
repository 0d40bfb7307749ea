/** Texts with the code and the place of their fault, and that a fault leaves the program alone: promises 4 and 5. */
public final class FaultTest {
    private static final Check check = new Check("FaultTest");
    private static final String HEAD = "16:2:2;{}{";
    private static final String ALL_OPEN = "((((((((((((";

    public static void main(String[] args) {
        signs();
        limitsOfSigns();
        sizes();
        ranges();
        indexes();
        indexesOfWritings();
        names();
        undoing();
        order();
        tooLarge();
        blanks();
        programStays();
        everyBeginning();
        oneBehindAnother();
        check.end();
    }

    private static void fault(int code, String marked) {
        check.fault(code, marked);
    }

    private static void fine(String text) {
        check.fine(text);
    }

    private static void large(String text) {
        check.large(text);
    }

    private static void signs() {
        fault(1, "!");
        fault(1, "   !");
        fault(1, "!:2:1;{}{}");
        fault(1, "16!;2:1;{}{}");
        fault(1, "16:2:1!:{}{}");
        fault(1, "16:2:1;!>K(0);");
        fault(1, "16:2:1;{}!A<1;");
        fault(1, "16:2:1;{}{}!}");
        fault(1, "16:2:1;{!A<1;}{}");
        fault(1, "16:2:1;{}{!>K(0);}");
        fault(1, "16:2:1;{}{!E<1;}");
        fault(1, "16:2:1;{}{!a<1;}");
        fault(1, "16:2:1;{}{A!=1;}");
        fault(1, "16:2:1;{}{A!|=1;}");
        fault(1, "16:2:1;{}{A^!1;}");
        fault(1, "16:2:1;{}{A*=!B;}");
        fault(1, "16:2:1;{}{A<!K(0);}");
        fault(1, "16:2:1;{}{A<!(B);}");
        fault(1, "16:2:1;{}{A:!1;}");
        fault(1, "16:2:1;{}{A#!B;}");
        fault(1, "16:2:1;{}{A@!;}");
        fault(1, "16:2:1;{}{A@1,!;}");
        fault(1, "16:2:1;{}{A^=1!}");
        fault(1, "16:2:1;{}{A^=!;}");
        fault(1, "16:2:1;{}{A^=K!0;}");
        fault(1, "16:2:1;{}{A^=K(!);}");
        fault(1, "16:2:1;{}{A^=K(0!*2);}");
        fault(1, "16:2:1;{}{i2[A^=K(i!2);]}");
        fault(1, "16:2:1;{}{i2[A^=K(2i!j);]}");
        fault(1, "16:2:1;{}{A^=K(1+!);}");
        fault(1, "16:2:1;{}{A^=K(!(0));}");
        fault(1, "16:2:1;{}{A^=(B!);}");
        fault(1, "16:2:1;{}{A^=(B^1!^2);}");
        fault(1, "16:2:1;{}{A^=(B<!B);}");
        fault(1, "16:2:1;{}{A^=(B<1!+1);}");
        fault(1, "16:2:1;{}{A^=B!^1;}");
        fault(1, "16:2:1;{}{i2[A^=2!i;]}");
        fault(1, "16:2:1;{}{!k2[]}");
        fault(1, "16:2:1;{}{i![]}");
        fault(1, "16:2:1;{}{i2!(]}");
        fault(1, "16:2:1;{}{!]}");
        fault(1, "16:2:1;{}{i2[!}]");
        fault(1, "16:2:1;{}{i2[]!;}");
        fault(1, "16:2:1;{!;}{}");
        fault(1, "16:2:1;#0123456789abcde!;{}{}");
        fault(1, "16:2:1;#0123456789abcdef!0;{}{}");
        fault(1, "16:2:1;#0123456789abcde!g;{}{}");
        fault(1, "16:2:1;#!A123456789abcdef;{}{}");
        fault(1, "16:2:1;#*!a+1;{}{}");
        fault(1, "16:2:1;#*3!;{}{}");
        fault(1, "16:2:1;#*3+!;{}{}");
        fault(1, "16:2:1;{}{A^=1;!\"");
        // no description has a sign before its place, whatever else is wrong before it
        fault(1, "12:9:9;{>A;}{D^=D;!x}");
        fine("16:2:1;{}{}");
        fine("16:2:1;{i2[]}{i1[j1[]j2[]]i1[]}");
        fine("8:2:1;{>0;}{A:A;B:A;A^=B;A+=1;A-=~1;A*=1;A<0;A<B;A@0;}");
    }

    private static void limitsOfSigns() {
        fault(1, "000000016!0:2:1;{}{}");
        fine("000000016:000000002:000000001;{}{}");
        fault(1, HEAD + "A^=100000000!0;}");
        fault(1, HEAD + "i2[A^=K(000000000!0i);]}");
        fault(1, HEAD + "A<000000001!2;}");
        fault(1, "16:2:1;#*1+0;#*1+0;!#*1+0;{}{}");
        fine("16:2:1;#*1+0;#*1+0;{}{}");
        fault(1, HEAD + "A@1,2,3,4,5!,6;}");
        fine(HEAD + "A@1,2,3,4,5;}");
        fault(1, HEAD + "i2[j2[!i2[]]]}");
        fault(1, "16:2:2;{i2[j2[!i2[]]]}{}");
        fine(HEAD + "i2[j2[]j2[]]j2[i2[]]}");
        fault(1, HEAD + "A^=" + ALL_OPEN + "!(B^1)}");
        fault(1, HEAD + "A^=" + ALL_OPEN + "!~B}");
        fault(1, HEAD + "A^=~~~~~~~~~~~~!~B;}");
        fault(1, "16:2:1;{>~~~~~~~~~~~~!~1;}{}");
        fine("16:2:1;{>~~~~~~~~~~~~1;}{}");
        fault(1, HEAD + "A^=(~~~~~~~~~~~B^~~~~~~~~~~~!~B);}");
        fine(HEAD + "A^=~~~~~~~~~~~~B;}");
        fine(HEAD + "A^=(~~~~~~~~~~~B^~~~~~~~~~~~B);}");
        fine(HEAD + "A^=~~~~~~~~~~~~K(0);}");
        fault(1, HEAD + "A^=" + ALL_OPEN + "B" + "^1)".repeat(12) + "!);}");
        fine(HEAD + "A^=" + ALL_OPEN + "B" + "^1)".repeat(12) + ";}");
    }

    private static void sizes() {
        fault(2, "!12:5:0;{}{}");
        fault(2, "!0:2:1;{}{}");
        fault(2, " !128:2:1;{}{}");
        fault(2, "16:!1:1;{}{}");
        fault(2, "16:!5:1;{}{}");
        fault(2, "16: !005:9;{}{}");
        fault(2, "16:2:!0;{}{}");
        fault(2, "16:2:!5;{}{}");
        for (String sizes : new String[] {"8:2:1", "16:3:2", "32:4:3", "64:2:4"}) {
            fine(sizes + ";{}{}");
        }
    }

    private static void ranges() {
        fault(3, "8:2:1;{>!256;}{}");
        fine("8:2:1;{>255;}{}");
        fault(3, "16:2:1;{}{A^=(B^!65536);}");
        fine("16:2:1;{}{A^=(B^65535);}");
        fine("32:2:1;{}{A^=999999999;A*=999999999;}");
        fine("64:2:1;{}{A^=999999999;A*=999999999;}");
        fault(3, "8:2:1;{}{A*=!257;}");
        fine("8:2:1;{}{A*=255;}");
        fault(3, "8:2:1;{}{A<!8;}");
        fine("8:2:1;{}{A<7;}");
        fault(3, "64:2:1;{}{A<!64;}");
        fine("64:2:1;{}{A<63;}");
        fault(3, "32:2:1;{>(K(0)<!32);}{}");
        fine("32:2:1;{>(K(0)<31);}{}");
        fault(3, "8:2:1;{}{A@!8;}");
        fault(3, "8:2:1;{}{A@7,0,!9;}");
        fault(3, "16:2:1;#*!16+3;{}{}");
        fault(3, "16:2:1;#*3+!16;{}{}");
        fine("16:2:1;#*15+15;{}{}");
        fault(3, "16:2:1;{i!0[]}{}");
        fault(3, "16:2:1;{i!17[]}{}");
        fault(3, "16:2:1;{}{j!999999999[A<1;]}");
        fine("16:2:1;{i16[]}{j1[]}");
    }

    private static void indexes() {
        fault(3, "16:2:2;{>!K(2);}{}");
        fine("16:2:2;{>K(1);}{}");
        fault(3, "16:2:4;{}{A^=!K(2+1+1);}");
        fault(3, "16:2:4;{}{i2[j2[A^=!K(2i+2j);]]}");
        fine("16:2:4;{}{i2[j2[A^=K(2i+j);]]}");
        fault(3, "16:2:4;{}{i5[A^=!K(i);]}");
        fine("16:2:1;{}{i1[A^=K(999999999i+999999999i+999999999i);]}");
        fault(3, "16:2:1;{}{i2[A^=!K(999999999i+999999999i+999999999i+999999999i+294967301i);]}");
        fault(3, "16:2:1;{}{A^=!K(999999999+999999999+999999999+999999999+294967300);}");
        fault(3, "16:2:1;{}{A^=!S(0);}");
        fault(3, "16:2:1;{>1;>2;}{A^=!S(2);}");
        fine("16:2:1;{>1;>2;}{A^=S(1);}");
        fine("16:2:1;{i2[j3[>1;]>2;]}{i8[A^=S(i);]}");
        fault(3, "16:2:1;{i2[j3[>1;]>2;]}{i9[A^=!S(i);]}");
    }

    private static void indexesOfWritings() {
        fault(3, "16:2:1;{>!S(0);}{}");
        fault(3, "16:2:1;{>1;>!S(1);>1;}{}");
        fine("16:2:1;{>1;>S(0);}{}");
        fine("16:2:1;{>1;i4[>S(i);]}{}");
        fault(3, "16:2:1;{>1;i4[>!S(i+1);]}{}");
        fault(3, "16:2:1;{i4[>!S(i);]}{}");
        // the first turn is the worst here, the last one there
        fault(3, "16:2:1;{i4[>!S(0);]}{}");
        fault(3, "16:2:1;{>1;i4[>!S(2i);]}{}");
        fine("16:2:1;{>1;>1;>1;>1;i4[>S(2i);]}{}");
        fine("16:2:1;{>1;i4[>S(3i);>1;>1;]}{}");
        fault(3, "16:2:1;{>1;i4[>!S(4i);>1;>1;]}{}");
        fine("16:2:1;{>1;i3[j4[>S(4i+j);]]}{}");
        fault(3, "16:2:1;{>1;i3[j4[>!S(5i+j);]]}{}");
        fault(3, "16:2:1;{>1;i3[j4[>!S(4i+2j);]]}{}");
        fine("16:2:1;{>1;i3[j4[>S(5i+j);]>1;]}{}");
        fault(3, "16:2:1;{>1;i3[j4[>1;]>!S(5i+5);]}{}");
        fine("16:2:1;{>1;i3[j4[>1;]>S(5i+4);]}{}");
        fine("16:2:1;{i2[j3[>1;]j2[>S(5i+j+2);]]}{}");
        fault(3, "16:2:1;{i2[j3[>1;]j2[>!S(5i+j+3);]]}{}");
    }

    private static void names() {
        fault(4, "16:2:1;{}{!C<1;}");
        fault(4, "16:3:1;{}{C<1;!D<1;}");
        fine("16:4:1;{}{C<1;D<1;}");
        fault(4, "16:2:1;{}{A:!D;}");
        fault(4, "16:2:1;{}{A<!C;}");
        fault(4, "16:2:1;{}{A^=(B+!C);}");
        fault(4, "16:4:1;{>!A;}{}");
        fault(4, "16:4:1;{>(1^~!B);}{}");
        fault(4, "16:2:1;{>!i;}{}");
        fault(4, "16:2:1;{j2[>!i;]}{}");
        fault(4, "16:2:1;{i2[>1;]>!i;}{}");
        fault(4, "16:2:1;{i2[>1;]}{A^=!i;}");
        fault(4, "16:2:1;{>K(!j);}{}");
        fault(4, "16:2:1;{>K(9+0!j);}{}");
        fault(4, "16:2:1;{i2[>K(9i+!j);]}{}");
        fault(4, "16:2:1;{i2[!i2[]]}{}");
        fault(4, "16:2:1;{}{j2[A<1;!j2[]]}");
        fine("16:2:1;{}{j2[A<1;]j2[]}");
        fault(4, "16:2:1;{}{A#!0;}");
        fault(4, "16:2:1;#*1+0;{}{A#0;A#!1;}");
        fault(4, "16:2:1;#*1+0;#*1+0;{}{A#00;A#1;A#!2;}");
    }

    private static void undoing() {
        fault(5, "16:2:1;{}{!A^=A;}");
        fault(5, "16:2:1;{}{!B+=(1-~(B<3));}");
        fault(5, "16:2:1;{}{i2[!A-=(A-A);]}");
        fault(5, "16:2:1;{}{A^=B;!B<B;}");
        fault(5, "16:2:1;{}{!A*=2;}");
        fault(5, "16:2:1;{}{!A*=0;}");
        fault(5, "16:2:1;#*2+1;{}{!A#0;}");
        fault(5, "16:2:1;#*3+1;#0123456789abcde0;{}{A#0;!B#1;}");
        fault(5, "16:2:1;#1123456789abcdef;{}{!A#0;}");
        fine("16:2:1;#*2+1;#*3+1;{}{B#1;}");
        fault(5, "16:2:1;{}{!A@1,1;}");
        fault(5, "16:2:1;{}{!A@1,2,3,4;}");
        fine("16:2:1;{}{A@1,1,1;A@0,0,0,1,1;}");
        fine("16:2:1;{}{A:A;}");
    }

    private static void order() {
        fault(5, "16:2:1;{}{!A^=(A^70000);}");
        fault(5, "16:2:1;{}{!A*=70000;}");
        fault(5, "16:2:1;{}{!A@16,2;}");
        fault(4, "16:2:1;{}{!C^=C;}");
        fault(4, "16:2:1;{}{!C<C;}");
        fault(3, "16:2:1;{}{A<!16;B*=2;}");
        fault(3, "16:2:1;{}{i!17[C<1;]}");
        fault(4, "16:2:1;{i2[!i17[>K(9);]]}{}");
        fault(3, "16:2:1;{i2[j!0[>K(9);]]}{}");
        fault(3, "16:2:1;{>1;i2[>!S(9i);]>A;}{}");
        fault(3, "16:2:1;{i16[j16[>(!K(1)^A);]]}{}");
        fault(2, "16:!9:1;{}{D^=D;}");
    }

    private static void tooLarge() {
        fine("16:2:1;{i16[j2[>1;]]}{}");
        large("16:2:1;{i16[j2[>1;]]>1;}{}");
        large("16:2:1;{i16[j16[>1;]]}{}");
        fine("16:2:1;{}{i16[j5[A<1;A<1;A<1;A<1;A<1;]]}");
        large("16:2:1;{}{i16[j5[A<1;A<1;A<1;A<1;A<1;]]A<1;}");
        fine("16:2:1;{i2[>1;]}{i16[j5[A^=K(0);A<1;A<1;]]i2[j2[A<1;]]i16[j4[A<1;]]i8[A<1;]}");
        large("16:2:1;{i2[>1;]}{i16[j5[A^=K(0);A<1;A<1;]]i2[j2[A<1;]]i16[j4[A<1;]]i9[A<1;]}");
        String four = "(((K(0)^1)^(1^K(0)))^((K(0)^1)^(1^K(0))))";
        fine("16:4:1;{>" + four + ";}{}");
        large("16:4:1;{>(" + four + "^" + four + ");}{}");
        fine("16:3:1;{>(" + four + "^" + four + ");}{}");
        large("16:4:1;{}{A^=(" + four + "^" + four + ");}");
    }

    private static void blanks() {
        fine("16 : 2 : 1 ; # 0 1 2 3 4 5 6 7 8 9 a b c d e f ; { > K ( 0 ) ; } { A ^ = ~ B ; } ");
        fault(1, "1 !6:2:1;{}{}");
        fault(1, "16:2:1;{}{A^=1 !2;}");
        fault(1, "16:2:1;{}{A@1,2 !3;}");
        fault(1, "16:2:1;{>K(0 !0);}{}");
        fault(1, "16:2:1;{}{}  !x");
        fault(1, "16:2:1;{}{   !");
        fault(4, "  16:2:1;{}{ A ^= ( B +   !C ) ; }");
        fault(3, "16:2:1;#* 3+ !16;{}{}");
        fault(3, "16:2:1;{ > !K ( 1 ) ; }{}");
    }

    private static void programStays() {
        CipherNotation x = Check.running("8:3:2;#*3+1;{>K(1);}{A^=S(0);}");
        x.key(1, 77);
        x.state(2, 99);
        String[] faulty = {"8:3:2;", "9:3:2;{}{}", "8:2:1;{>256;}{}", "8:2:1;{}{A#0;}", "8:2:1;{}{A<A;}",
            "8:2:1;{i16[>1;>1;>1;]}{}"};
        for (int code = 1; code <= 6; code++) {
            check.due("compile() of fault " + code, Check.compile(x, faulty[code - 1]), code);
            check.due("states behind fault " + code, x.number(1), 3);
            check.due("tables behind fault " + code, x.number(3), 1);
            check.due("table() behind fault " + code, x.table(0, 1, false), 4);
            check.due("keyWord() behind fault " + code, x.keyWord(1), 77);
            check.due("word() behind fault " + code, x.word(2), 99);
            check.due("subkey() behind fault " + code, x.subkey(0), 77);
            check.due("the form behind fault " + code, Check.form(x), "8:3:2;#147ad0369cf258be;{>K(1);}{A^=S(0);}");
        }
        check.due("compile() at last", Check.compile(x, "16:2:1;{}{A+=1;}"), 0);
        check.due("the form at last", Check.form(x), "16:2:1;{}{A+=1;}");
    }

    private static void everyBeginning() {
        String text = "16:3:2;#63f1b2c4d5e7980a;#*5+03;{i4[>((K(0)+(i*40503))<3);j2[>~S(i+j);]]}"
            + "{A^=(B|C);i2[B-=~K(i);C@1,2,3;j3[A<C;A*=5;A#1;]]A:B; }";
        fine(text);
        CipherNotation used = Check.running(text);
        for (int length = 0; length < text.length(); length++) {
            if (length % 10 == 0) {
                used = Check.running(text);
            }
            for (CipherNotation x : new CipherNotation[] {new CipherNotation(), used}) {
                check.due("compile() of a beginning", Check.compile(x, text.substring(0, length)), 1);
                check.due("place() of a beginning", x.place(), length);
            }
        }
    }

    /** What is left of one text, loops that stayed open too, has no part in how the next one is read. */
    private static void oneBehindAnother() {
        CipherNotation x = new CipherNotation();
        String[] texts = {"16:2:4;{i4[>(K(i)+(j*3));j4[", "16:2:4;{}{A^=i;}", "16:2:4;{i0[j4[>1;]]}{}",
            "16:2:1;{>1;>S(0);}{A^=S(1);}", "16:2:4;{i4[j1[>K(i+j);]]}{", "16:2:1;{>K(0);}{i2[A+=S(0);]}"};
        int[] codes = {1, 4, 3, 0, 1, 0};
        int[] places = {28, 13, 9, -1, 26, -1};
        for (int n = 0; n < texts.length; n++) {
            check.due("compile() of " + texts[n], Check.compile(x, texts[n]), codes[n]);
            check.due("place() of " + texts[n], x.place(), places[n]);
        }
        x.key(0, 21);
        x.encrypt();
        check.due("A at last", x.word(0), 42);
    }
}

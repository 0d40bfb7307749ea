/** What each step and expression does, worked out by hand, and that each step can be undone: promises 14 to 16. */
public final class MeaningTest {
    private static final Check check = new Check("MeaningTest");

    public static void main(String[] args) {
        steps();
        expressions();
        wholeWidths();
        check.end();
    }

    /** One step on the words a and b: what a becomes, and that it becomes a again when the step is undone. */
    private static void step(int width, String step, long a, long b, long due) {
        CipherNotation x = Check.running(width + ":2:1;#63f1b2c4d5e7980a;#*5+3;{}{" + step + "}");
        x.state(0, a);
        x.state(1, b);
        x.encrypt();
        check.due(step + " with " + width + " bits", x.word(0), due);
        x.decrypt();
        check.due(step + " undone, A", x.word(0), a);
        check.due(step + " undone, B", x.word(1), b);
        x.decrypt();
        x.encrypt();
        check.due(step + " done behind undone, A", x.word(0), a);
        check.due(step + " done behind undone, B", x.word(1), b);
    }

    private static void steps() {
        step(8, "A^=B;", 0x5A, 0xFF, 0xA5);
        step(8, "A+=B;", 200, 100, 44);
        step(8, "A-=B;", 100, 200, 156);
        step(8, "A*=255;", 1, 0, 255);
        step(16, "A*=65535;", 2, 0, 65534);
        step(32, "A*=999999999;", 0xFFFFFFFFL, 0, (1L << 32) - 999999999);
        step(64, "A*=999999999;", -1, 0, -999999999);
        step(8, "A<0;", 0x81, 0, 0x81);
        step(8, "A<1;", 0x81, 0, 0x03);
        step(8, "A<7;", 0x81, 0, 0xC0);
        step(64, "A<0;", Long.MIN_VALUE + 1, 0, Long.MIN_VALUE + 1);
        step(64, "A<63;", 3, 0, Long.MIN_VALUE + 1);
        step(8, "A<B;", 0x81, 9, 0x03);
        step(8, "A<B;", 0x81, 248, 0x81);
        step(32, "A<B;", 1, 0xFFFFFFFFL, 0x80000000L);
        step(64, "A<B;", 1, -1, Long.MIN_VALUE);
        step(16, "A:B;", 7, 9, 9);
        step(16, "A:A;", 7, 9, 7);
        step(16, "A#0;", 0x012F, 0, 0x63FA);
        step(64, "A#0;", 0x0123456789ABCDEFL, 0, 0x63F1B2C4D5E7980AL);
        step(64, "A#1;", 0x0123456789ABCDEFL, 0, 0x38D27C16B05AF49EL);
        step(8, "A@0;", 0x81, 0, 0x81);
        step(8, "A@3;", 0x81, 0, 0x0C);
        step(8, "A@0,1,2;", 0x01, 0, 0x07);
        step(8, "A@1,1,2;", 0x81, 0, 0x06);
        step(8, "A@7,7,7,7,7;", 0x02, 0, 0x01);
        step(64, "A@0,1,63;", 1, 0, Long.MIN_VALUE + 3);
        step(32, "A@0,1,5,9,31;", 1, 0, 0x80000223L);
        step(8, "i16[A+=i;]", 0, 0, 120);
        step(8, "i16[j12[A+=(i*j);]]", 0, 0, 120 * 66 & 255);
        step(8, "j3[i2[A*=3;A+=((10*i)+j);]]", 1, 0, nested());
    }

    private static long nested() {
        long a = 1;
        for (int j = 0; j < 3; j++) {
            for (int i = 0; i < 2; i++) {
                a = a * 3 + 10 * i + j;
            }
        }
        return a & 255;
    }

    private static void expression(int width, String expression, long due) {
        CipherNotation x = Check.running(width + ":3:2;{>" + expression.replace("C", "K(1)") + ";}{}");
        x.key(1, 0x9C);
        check.due(expression + " in a WRITING with " + width + " bits", x.subkey(0), due);
        Check.compile(x, width + ":3:2;{}{A+=" + expression + ";}");
        x.state(2, 0x9C);
        x.encrypt();
        check.due(expression + " in a step with " + width + " bits", x.word(0), due);
    }

    private static void expressions() {
        expression(8, "5", 5);
        expression(8, "C", 0x9C);
        expression(8, "~C", 0x63);
        expression(16, "~C", 0xFF63);
        expression(8, "~0", 0xFF);
        expression(64, "~0", -1);
        expression(8, "(C^15)", 0x93);
        expression(8, "(C&15)", 0x0C);
        expression(8, "(C|15)", 0x9F);
        expression(8, "(C+200)", 0x9C + 200 & 255);
        expression(8, "(C-200)", 0x9C - 200 & 255);
        expression(8, "(1-C)", 1 - 0x9C & 255);
        expression(32, "(1-C)", 1 - 0x9C & 0xFFFFFFFFL);
        expression(64, "(1-C)", 1 - 0x9C);
        expression(8, "(C*C)", 0x9C * 0x9C & 255);
        expression(8, "(C<0)", 0x9C);
        expression(8, "(C<3)", 0xE4);
        expression(16, "(C<15)", 0x4E);
        expression(64, "(C<60)", 0xC000000000000009L);
        expression(8, "((~C<1)-(3*(C|1)))", 0xC6 - 3 * 0x9D & 255);
        expression(16, "(~(C+C)&(255<4))", ~0x138 & 0xFF0);
    }

    /** Every step kind in one text, over many words of every width. */
    private static void wholeWidths() {
        long seed = 12345;
        for (int width = 8; width <= 64; width *= 2) {
            long mask = -1L >>> 64 - width;
            CipherNotation x = Check.running(width + ":4:2;#63f1b2c4d5e7980a;#*5+3;{i4[>(K(0)*(K(1)+i));]}"
                + "{i4[A^=(S(i)+B);B+=~C;C-=(D&S(3));D*=251;A<5;B<D;C:A;D#0;A#1;B@1,3,7;C@0,0,2,5,6;]}");
            for (int n = 0; n < 40; n++) {
                long[] words = new long[4];
                for (int i = 0; i < 4; i++) {
                    seed = seed * 6364136223846793005L + 1442695040888963407L;
                    words[i] = (seed ^ seed >>> 32) & mask;
                    x.state(i, words[i]);
                    x.key(i % 2, seed >>> 7 & mask);
                }
                x.encrypt();
                x.apply(44, 13);
                x.apply(13, 0);
                for (int i = 0; i < 4; i++) {
                    check.due("word " + i + " of width " + width, x.word(i), words[i]);
                }
            }
        }
    }
}

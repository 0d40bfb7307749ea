import java.util.function.LongSupplier;

/** What the tests share: it tells and counts the calls whose answer is not the one that is due. */
final class Check {
    private final String name;
    private int done = 0;
    private int wrong = 0;

    Check(String name) {
        this.name = name;
    }

    void due(String what, long got, long want) {
        done++;
        if (got != want) {
            wrong++;
            System.out.println(what + " answered " + got + ", due is " + want);
        }
    }

    void due(String what, String got, String want) {
        done++;
        if (!got.equals(want)) {
            wrong++;
            System.out.println(what + " answered " + got + ", due is " + want);
        }
    }

    /** The call must throw just the exception with this class. */
    void refuses(String what, Class<? extends RuntimeException> kind, LongSupplier call) {
        String got;
        try {
            got = "the answer " + call.getAsLong();
        } catch (RuntimeException e) {
            got = e.getClass().getSimpleName();
        }
        due(what, got, kind.getSimpleName());
    }

    void end() {
        System.out.println(name + ": " + done + " answers, " + wrong + " not as due");
        if (wrong != 0 || done == 0) {
            System.exit(1);
        }
    }

    /** Writes a text of at most 240 characters, eight at a time. */
    static int write(CipherNotation x, String text) {
        int length = x.write(0);
        for (int from = 0; from < text.length(); from += 8) {
            length = x.write(packed(text.substring(from, Math.min(from + 8, text.length()))));
        }
        return length;
    }

    static long packed(String text) {
        long characters = 0;
        for (int i = 0; i < text.length(); i++) {
            characters |= (long) text.charAt(i) << 8 * i;
        }
        return characters;
    }

    /** The code that compile() answers for a text in place of the one before. */
    static int compile(CipherNotation x, String text) {
        x.wipe();
        write(x, text);
        return x.compile();
    }

    /** A new object with the program of a text, which must have no fault. */
    static CipherNotation running(String text) {
        CipherNotation x = new CipherNotation();
        int code = compile(x, text);
        if (code != 0) {
            throw new IllegalStateException("fault " + code + " at " + x.place() + " of " + text);
        }
        return x;
    }

    static String form(CipherNotation x) {
        StringBuilder form = new StringBuilder();
        for (int i = 0; x.print(i) != CipherNotation.NONE; i++) {
            form.append((char) x.print(i));
        }
        return form.toString();
    }
}

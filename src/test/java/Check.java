import java.util.function.LongSupplier;

/** What the tests share: it tells and counts the calls whose answer is not the one that is due. */
final class Check {
    private final String name;
    private int done = 0;
    private int wrong = 0;
    private int sentences = 0;
    private String sentence = "";
    private int doneBeforeSentence = 0;

    Check(String name) {
        this.name = name;
    }

    /** Names the section and the sentence of the document that ask for the answers from here on. */
    void sentence(String section, String words) {
        sentence(section, words, "");
    }

    /** The same of one case of several that a sentence names. */
    void sentence(String section, String words, String which) {
        endSentence();
        sentences++;
        sentence = section + ", \"" + words + "\"" + (which.isEmpty() ? "" : " (" + which + ")");
    }

    private void endSentence() {
        if (sentences > 0 && done == doneBeforeSentence) {
            tell("no answer at all was looked at");
        }
        doneBeforeSentence = done;
    }

    private void tell(String what) {
        wrong++;
        System.out.println(sentence.isEmpty() ? what : sentence + ": " + what);
    }

    void due(String what, long got, long want) {
        done++;
        if (got != want) {
            tell(what + " answered " + got + ", due is " + want);
        }
    }

    void due(String what, String got, String want) {
        done++;
        if (!got.equals(want)) {
            tell(what + " answered " + got + ", due is " + want);
        }
    }

    /** The call must throw just the exception with this class. */
    void refuses(String what, Class<? extends RuntimeException> kind, LongSupplier call) {
        String got;
        try {
            got = "the answer " + call.getAsLong();
        } catch (RuntimeException e) {
            got = e.getClass().getSimpleName();
        }
        due(what, got, kind.getSimpleName());
    }

    /** The fault of a text, told by a new object; its place is where the mark ! stands, which is taken out. */
    void fault(int code, String marked) {
        int place = marked.indexOf('!');
        faultAt(place, code, marked.substring(0, place) + marked.substring(place + 1));
    }

    void faultAt(int place, int code, String text) {
        CipherNotation x = new CipherNotation();
        due("compile() of " + text, compile(x, text), code);
        due("place() of " + text, x.place(), place);
        refuses("number(0) behind " + text, IllegalStateException.class, () -> x.number(0));
    }

    void fine(String text) {
        CipherNotation x = new CipherNotation();
        due("compile() of " + text, compile(x, text), 0);
        due("place() of " + text, x.place(), CipherNotation.NONE);
    }

    /** A text with the fault 6, which has no place. */
    void large(String text) {
        faultAt(CipherNotation.NONE, 6, text);
    }

    void end() {
        endSentence();
        System.out.println(name + ": " + (sentences > 0 ? sentences + " sentences, " : "") + done + " answers, "
            + wrong + " not as due");
        if (wrong != 0 || done == 0) {
            System.exit(1);
        }
    }

    /** Writes a text of at most 240 characters, eight at a time. */
    static int write(CipherNotation x, String text) {
        int length = x.write(0);
        for (int from = 0; from < text.length(); from += 8) {
            length = x.write(packed(text.substring(from, Math.min(from + 8, text.length()))));
        }
        return length;
    }

    static long packed(String text) {
        long characters = 0;
        for (int i = 0; i < text.length(); i++) {
            characters |= (long) text.charAt(i) << 8 * i;
        }
        return characters;
    }

    /** The code that compile() answers for a text in place of the one before. */
    static int compile(CipherNotation x, String text) {
        x.wipe();
        write(x, text);
        return x.compile();
    }

    /** A new object with the program of a text, which must have no fault. */
    static CipherNotation running(String text) {
        CipherNotation x = new CipherNotation();
        int code = compile(x, text);
        if (code != 0) {
            throw new IllegalStateException("fault " + code + " at " + x.place() + " of " + text);
        }
        return x;
    }

    static String form(CipherNotation x) {
        StringBuilder form = new StringBuilder();
        for (int sign = x.print(0); sign != CipherNotation.NONE; sign = x.print(form.length())) {
            form.append((char) sign);
        }
        return form.toString();
    }

    /** All that can be seen of an object with a program, to tell whether a call has changed something. */
    static String picture(CipherNotation x) {
        StringBuilder picture = new StringBuilder();
        picture.append(x.write(0)).append(' ').append(x.place()).append(' ').append(form(x));
        for (int what = 0; what < 8; what++) {
            picture.append(' ').append(x.number(what));
        }
        for (int i = 0; i < x.number(1); i++) {
            picture.append(" state ").append(x.word(i));
        }
        for (int i = 0; i < x.number(2); i++) {
            picture.append(" key ").append(x.keyWord(i));
        }
        for (int i = 0; i < x.number(4); i++) {
            picture.append(" subkey ").append(x.subkey(i));
        }
        return picture.toString();
    }

    /** The greatest word with so many bits. */
    static long top(int width) {
        return -1L >>> 64 - width;
    }
}

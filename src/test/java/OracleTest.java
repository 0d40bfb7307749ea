import java.math.BigInteger;
import java.util.List;
import java.util.Random;

/** Many texts that TextMaker makes, with every answer of the program against what Grammar and Oracle work out. */
public final class OracleTest {
    private static final Check check = new Check("OracleTest");
    private static final int USUAL = 6000;
    private static final int TEXTS = Integer.getInteger("texts", USUAL);
    private static final Random random = new Random(Long.getLong("seed", 7));
    private static final int[] codes = new int[7];

    public static void main(String[] args) {
        Grammar grammar = new Grammar();
        TextMaker maker = new TextMaker(Long.getLong("seed", 7));
        CipherNotation x = new CipherNotation();
        Oracle program = null;
        for (int n = 0; n < TEXTS; n++) {
            if (n % 3 == 0) {
                x = new CipherNotation();
                program = null;
            }
            String text = maker.next();
            int place = grammar.faultPlace(text);
            Oracle oracle = place < 0 ? new Oracle(text) : null;
            int code = oracle == null ? 1 : oracle.code();
            codes[code]++;
            check.due("compile() of " + text, Check.compile(x, text), code);
            check.due("place() of " + text, x.place(), oracle == null ? place : oracle.place());
            if (code == 0) {
                program = oracle;
                sameNumbers(x, program, text);
            }
            if (program != null) {
                sameRuns(x, program, text);
            }
        }
        StringBuilder seen = new StringBuilder("texts by code:");
        for (int code = 0; code < codes.length; code++) {
            seen.append(' ').append(codes[code]);
            // a few texts may well lack a code
            boolean isEnough = TEXTS < USUAL || codes[code] > TEXTS / 300;
            check.due("texts with code " + code + " are enough", isEnough ? 1 : 0, 1);
        }
        System.out.println(seen);
        check.end();
    }

    private static void sameNumbers(CipherNotation x, Oracle program, String text) {
        for (int what = 0; what < 8; what++) {
            check.due("number(" + what + ") of " + text, x.number(what), program.numbers[what]);
        }
        for (int t = 0; t < program.tables.size(); t++) {
            for (int i = 0; i < 16; i++) {
                check.due("table() of " + text, x.table(t, i, false), program.tables.get(t)[i]);
            }
        }
    }

    private static BigInteger[] words(int count, int width) {
        BigInteger[] words = new BigInteger[count];
        for (int i = 0; i < count; i++) {
            words[i] = new BigInteger(width, random);
        }
        return words;
    }

    private static void sameRuns(CipherNotation x, Oracle program, String text) {
        int width = program.numbers[0];
        BigInteger[] states = words(program.numbers[1], width);
        BigInteger[] keys = words(program.numbers[2], width);
        for (int i = 0; i < states.length; i++) {
            x.state(i, states[i].longValue());
        }
        for (int i = 0; i < keys.length; i++) {
            x.key(i, keys[i].longValue());
        }
        check.due("the form of " + text, Check.form(x), program.form());
        List<BigInteger> subkeys = program.subkeys(keys);
        for (int i = 0; i < subkeys.size(); i++) {
            check.due("subkey(" + i + ") of " + text, x.subkey(i), subkeys.get(i).longValue());
        }
        int steps = program.numbers[5];
        check.due("encrypt() of " + text, x.encrypt(), program.numbers[6]);
        program.go(0, steps, states, keys);
        sameStates(x, states, text);
        int from = random.nextInt(steps + 1);
        int to = random.nextInt(steps + 1);
        check.due("apply() of " + text, x.apply(from, to), Math.abs(from - to));
        program.go(from, to, states, keys);
        sameStates(x, states, text);
        check.due("decrypt() of " + text, x.decrypt(), program.numbers[6]);
        program.go(steps, 0, states, keys);
        sameStates(x, states, text);
    }

    private static void sameStates(CipherNotation x, BigInteger[] states, String text) {
        for (int i = 0; i < states.length; i++) {
            check.due("word(" + i + ") of " + text, x.word(i), states[i].longValue());
        }
    }
}

import java.math.BigInteger;
import java.util.ArrayList;
import java.util.HashMap;
import java.util.HashSet;
import java.util.List;
import java.util.Map;
import java.util.Set;

/**
 * What the document asks of one text, worked out the long way: trees, big numbers, every turn of every loop walked.
 * It takes descriptions alone; what is none, Grammar tells.
 */
final class Oracle {
    static final class Expression {
        char kind;
        int place;
        Expression left;
        Expression right;
        BigInteger number = BigInteger.ZERO;
        char letter;
        // an index: its terms as number and LETTER, 0 for none
        final List<BigInteger> factors = new ArrayList<>();
        final List<Character> letters = new ArrayList<>();

        boolean isConstant() {
            return "ABCDKS".indexOf(kind) < 0 && (left == null || left.isConstant())
                && (right == null || right.isConstant());
        }

        boolean names(char state) {
            return kind == state || left != null && left.names(state) || right != null && right.names(state);
        }

        int cost() {
            if (isConstant()) {
                return 1;
            }
            if ("ABCD".indexOf(kind) >= 0) {
                return 0;
            }
            return 1 + (left == null ? 0 : left.cost()) + (right == null ? 0 : right.cost());
        }

        int need() {
            if (isConstant() || kind == 'K' || kind == 'S') {
                return 1;
            }
            if ("ABCD".indexOf(kind) >= 0) {
                return 0;
            }
            if (right == null) {
                return Math.max(1, left.need());
            }
            return left.need() == right.need() ? left.need() + 1 : Math.max(left.need(), right.need());
        }
    }

    static final class Thing {
        // '>' a WRITING, '[' a loop, else the sign of a step
        char kind;
        char subject;
        int place;
        Expression expression;
        char otherState;
        final List<Integer> numbers = new ArrayList<>();
        final List<Thing> body = new ArrayList<>();
    }

    record Done(Thing thing, Map<Character, Integer> turns) { }

    private final StringBuilder signs = new StringBuilder();
    private final List<Integer> places = new ArrayList<>();
    private final StringBuilder form = new StringBuilder();
    private int at = 0;
    private int leastFault = Integer.MAX_VALUE;
    private int written = 0;

    final int[] numbers = new int[8];
    final List<int[]> tables = new ArrayList<>();
    private final List<Done> writings = new ArrayList<>();
    private final List<Done> steps = new ArrayList<>();
    private final List<Character> open = new ArrayList<>();
    private boolean isWritings;
    private final BigInteger modulus;

    Oracle(String text) {
        for (int place = 0; place < text.length(); place++) {
            if (text.charAt(place) != ' ') {
                signs.append(text.charAt(place));
                places.add(place);
            }
        }
        List<Integer> sizes = List.of(8, 16, 32, 64);
        for (int what = 0; what < 3; what++) {
            int place = places.get(at);
            numbers[what] = number();
            sign();
            boolean isRight = what == 0 ? sizes.contains(numbers[0])
                : numbers[what] >= 3 - what && numbers[what] <= 4;
            fault(place, 2, !isRight);
        }
        modulus = BigInteger.ONE.shiftLeft(Math.min(numbers[0], 64));
        while (signs.charAt(at) == '#') {
            table();
        }
        List<Thing> ofWritings = block(true);
        List<Thing> ofSteps = block(false);
        walk(ofWritings, new HashMap<>());
        isWritings = false;
        walk(ofSteps, new HashMap<>());
        numbers[3] = tables.size();
        numbers[7] = numbers[1] + Math.max(greatestNeed(ofWritings), greatestNeed(ofSteps));
    }

    int code() {
        if (leastFault != Integer.MAX_VALUE) {
            return leastFault % 10;
        }
        return numbers[4] > 32 || numbers[6] > 400 || numbers[7] > 8 ? 6 : 0;
    }

    int place() {
        return leastFault == Integer.MAX_VALUE ? -1 : leastFault / 10;
    }

    String form() {
        return form.toString();
    }

    private void fault(int place, int code, boolean isThere) {
        if (isThere) {
            leastFault = Math.min(leastFault, place * 10 + code);
        }
    }

    private char sign() {
        char sign = signs.charAt(at++);
        form.append(sign);
        return sign;
    }

    private int number() {
        int from = at;
        while (Character.isDigit(signs.charAt(at))) {
            at++;
        }
        BigInteger value = new BigInteger(signs.substring(from, at));
        form.append(value);
        return value.intValueExact();
    }

    private int numberBelow(BigInteger bound) {
        int place = places.get(at);
        int value = number();
        fault(place, 3, BigInteger.valueOf(value).compareTo(bound) >= 0);
        return value;
    }

    private void table() {
        sign();
        int mark = form.length();
        int[] table = new int[16];
        if (signs.charAt(at) == '*') {
            sign();
            long m = numberBelow(BigInteger.valueOf(16));
            sign();
            long n = numberBelow(BigInteger.valueOf(16));
            for (int i = 0; i < 16; i++) {
                table[i] = (int) ((i * m + n) % 16);
            }
        } else {
            for (int i = 0; i < 16; i++) {
                table[i] = Integer.parseInt(String.valueOf(sign()), 16);
            }
        }
        form.setLength(mark);
        for (int entry : table) {
            form.append(Integer.toHexString(entry));
        }
        sign();
        tables.add(table);
    }

    private List<Thing> block(boolean ofWritings) {
        sign();
        isWritings = ofWritings;
        return things('}');
    }

    private List<Thing> things(char end) {
        List<Thing> things = new ArrayList<>();
        while (signs.charAt(at) != end) {
            things.add(thing());
        }
        sign();
        return things;
    }

    private Thing thing() {
        Thing thing = new Thing();
        thing.place = places.get(at);
        char first = sign();
        if (first == 'i' || first == 'j') {
            thing.kind = '[';
            thing.subject = first;
            fault(thing.place, 4, open.contains(first));
            int place = places.get(at);
            int times = number();
            fault(place, 3, times < 1 || times > 16);
            thing.numbers.add(Math.min(times, 16));
            sign();
            open.add(first);
            thing.body.addAll(things(']'));
            open.remove(open.size() - 1);
            return thing;
        }
        if (first == '>') {
            thing.kind = '>';
            thing.expression = expression();
        } else {
            thing.subject = first;
            stateFault(first, thing.place);
            rest(thing);
        }
        sign();
        return thing;
    }

    private void rest(Thing step) {
        step.kind = sign();
        BigInteger width = BigInteger.valueOf(numbers[0]);
        switch (step.kind) {
            case '^', '+', '-' -> {
                sign();
                step.expression = expression();
                fault(step.place, 5, step.expression.names(step.subject));
            }
            case '*' -> {
                sign();
                step.numbers.add(numberBelow(modulus));
                fault(step.place, 5, step.numbers.get(0) % 2 == 0);
            }
            case '<' -> {
                if (Character.isDigit(signs.charAt(at))) {
                    step.numbers.add(numberBelow(width));
                } else {
                    state(step);
                    fault(step.place, 5, step.subject == step.otherState);
                }
            }
            case ':' -> state(step);
            case '#' -> {
                int place = places.get(at);
                int t = number();
                step.numbers.add(t);
                fault(place, 4, t >= tables.size());
                if (t < tables.size()) {
                    Set<Integer> different = new HashSet<>();
                    for (int entry : tables.get(t)) {
                        different.add(entry);
                    }
                    fault(step.place, 5, different.size() < 16);
                }
            }
            default -> {
                step.numbers.add(numberBelow(width));
                while (signs.charAt(at) == ',') {
                    sign();
                    step.numbers.add(numberBelow(width));
                }
                fault(step.place, 5, step.numbers.size() % 2 == 0);
            }
        }
    }

    private void state(Thing step) {
        int place = places.get(at);
        step.otherState = sign();
        stateFault(step.otherState, place);
    }

    private void stateFault(char state, int place) {
        fault(place, 4, isWritings || state - 'A' >= numbers[1]);
    }

    private Expression expression() {
        Expression expression = new Expression();
        expression.place = places.get(at);
        char first = signs.charAt(at);
        if (Character.isDigit(first)) {
            expression.kind = '0';
            expression.number = BigInteger.valueOf(numberBelow(modulus));
            return expression;
        }
        sign();
        expression.kind = first;
        if (first == '~') {
            expression.left = expression();
        } else if (first == '(') {
            expression.left = expression();
            expression.kind = sign();
            if (expression.kind == '<') {
                expression.number = BigInteger.valueOf(numberBelow(BigInteger.valueOf(numbers[0])));
            } else {
                expression.right = expression();
            }
            sign();
        } else if (first == 'K' || first == 'S') {
            do {
                sign();
                term(expression);
            } while (signs.charAt(at) == '+');
            sign();
        } else if (first == 'i' || first == 'j') {
            expression.letter = first;
            fault(expression.place, 4, !open.contains(first));
        } else {
            stateFault(first, expression.place);
        }
        return expression;
    }

    private void term(Expression index) {
        BigInteger factor = Character.isDigit(signs.charAt(at)) ? BigInteger.valueOf(number()) : BigInteger.ONE;
        char letter = 0;
        if (signs.charAt(at) == 'i' || signs.charAt(at) == 'j') {
            fault(places.get(at), 4, !open.contains(signs.charAt(at)));
            letter = sign();
        }
        index.factors.add(factor);
        index.letters.add(letter);
    }

    private int greatestNeed(List<Thing> things) {
        int greatest = 0;
        for (Thing thing : things) {
            greatest = Math.max(greatest, greatestNeed(thing.body));
            if (thing.expression != null) {
                greatest = Math.max(greatest, thing.expression.need());
            }
        }
        return greatest;
    }

    /** Counts what is done, keeps the first of it, and finds indexes that are too great. */
    private void walk(List<Thing> things, Map<Character, Integer> turns) {
        for (Thing thing : things) {
            if (thing.kind == '[') {
                for (int turn = 0; turn < thing.numbers.get(0); turn++) {
                    Map<Character, Integer> inner = new HashMap<>(turns);
                    inner.put(thing.subject, turn);
                    walk(thing.body, inner);
                }
                continue;
            }
            boolean isWriting = thing.kind == '>';
            if (thing.expression != null) {
                findTooGreat(thing.expression, turns, isWriting ? written : numbers[4]);
            }
            numbers[6] += thing.expression == null ? 1 : 1 + thing.expression.cost();
            numbers[isWriting ? 4 : 5]++;
            written += isWriting ? 1 : 0;
            List<Done> done = isWriting ? writings : steps;
            if (done.size() <= 400) {
                done.add(new Done(thing, turns));
            }
        }
    }

    private void findTooGreat(Expression expression, Map<Character, Integer> turns, int subkeys) {
        if (expression.left != null) {
            findTooGreat(expression.left, turns, subkeys);
        }
        if (expression.right != null) {
            findTooGreat(expression.right, turns, subkeys);
        }
        if (expression.kind == 'K' || expression.kind == 'S') {
            for (char letter : expression.letters) {
                if (letter != 0 && !turns.containsKey(letter)) {
                    return;
                }
            }
            int count = expression.kind == 'K' ? numbers[2] : subkeys;
            fault(expression.place, 3, index(expression, turns).compareTo(BigInteger.valueOf(count)) >= 0);
        }
    }

    private static BigInteger index(Expression expression, Map<Character, Integer> turns) {
        BigInteger sum = BigInteger.ZERO;
        for (int n = 0; n < expression.factors.size(); n++) {
            char letter = expression.letters.get(n);
            BigInteger times = BigInteger.valueOf(letter == 0 ? 1 : turns.get(letter));
            sum = sum.add(expression.factors.get(n).multiply(times));
        }
        return sum;
    }

    // running: words are kept by their caller

    List<BigInteger> subkeys(BigInteger[] keys) {
        List<BigInteger> subkeys = new ArrayList<>();
        for (Done done : writings) {
            subkeys.add(value(done.thing().expression, done.turns(), null, keys, subkeys));
        }
        return subkeys;
    }

    void go(int from, int to, BigInteger[] states, BigInteger[] keys) {
        List<BigInteger> subkeys = subkeys(keys);
        for (int k = from; k < to; k++) {
            change(steps.get(k), false, states, keys, subkeys);
        }
        for (int k = from - 1; k >= to; k--) {
            change(steps.get(k), true, states, keys, subkeys);
        }
    }

    private BigInteger value(Expression e, Map<Character, Integer> turns, BigInteger[] states, BigInteger[] keys,
            List<BigInteger> subkeys) {
        BigInteger left = e.left == null ? null : value(e.left, turns, states, keys, subkeys);
        BigInteger right = e.right == null ? null : value(e.right, turns, states, keys, subkeys);
        BigInteger value = switch (e.kind) {
            case '0' -> e.number;
            case 'i', 'j' -> BigInteger.valueOf(turns.get(e.letter));
            case 'K' -> keys[index(e, turns).intValueExact()];
            case 'S' -> subkeys.get(index(e, turns).intValueExact());
            case '~' -> left.not();
            case '<' -> rotated(left, e.number.intValueExact());
            case '^' -> left.xor(right);
            case '&' -> left.and(right);
            case '|' -> left.or(right);
            case '+' -> left.add(right);
            case '-' -> left.subtract(right);
            case '*' -> left.multiply(right);
            default -> states[e.kind - 'A'];
        };
        return value.mod(modulus);
    }

    private BigInteger rotated(BigInteger word, int bits) {
        BigInteger answer = BigInteger.ZERO;
        for (int bit = 0; bit < numbers[0]; bit++) {
            if (word.testBit(bit)) {
                answer = answer.setBit((bit + bits) % numbers[0]);
            }
        }
        return answer;
    }

    private void change(Done done, boolean back, BigInteger[] states, BigInteger[] keys, List<BigInteger> subkeys) {
        Thing step = done.thing();
        int width = numbers[0];
        int subject = step.subject - 'A';
        BigInteger word = states[subject];
        BigInteger by = step.expression == null ? null
            : value(step.expression, done.turns(), states, keys, subkeys);
        switch (step.kind) {
            case '^' -> word = word.xor(by);
            case '+' -> word = back ? word.subtract(by) : word.add(by);
            case '-' -> word = back ? word.add(by) : word.subtract(by);
            case '*' -> {
                BigInteger factor = BigInteger.valueOf(step.numbers.get(0));
                word = word.multiply(back ? factor.modInverse(modulus) : factor);
            }
            case '<' -> {
                int bits = step.otherState == 0 ? step.numbers.get(0)
                    : states[step.otherState - 'A'].mod(BigInteger.valueOf(width)).intValueExact();
                word = rotated(word, back ? width - bits : bits);
            }
            case ':' -> {
                word = states[step.otherState - 'A'];
                states[step.otherState - 'A'] = states[subject];
            }
            case '#' -> word = replaced(word, tables.get(step.numbers.get(0)), back);
            default -> word = back ? gathered(word, step.numbers) : spread(word, step.numbers);
        }
        states[subject] = word.mod(modulus);
    }

    private BigInteger replaced(BigInteger word, int[] table, boolean back) {
        BigInteger answer = BigInteger.ZERO;
        for (int digit = numbers[0] / 4 - 1; digit >= 0; digit--) {
            int value = word.shiftRight(4 * digit).intValue() & 15;
            int entry = table[value];
            if (back) {
                entry = 0;
                while (table[entry] != value) {
                    entry++;
                }
            }
            answer = answer.shiftLeft(4).or(BigInteger.valueOf(entry));
        }
        return answer;
    }

    private BigInteger spread(BigInteger word, List<Integer> rotations) {
        BigInteger answer = BigInteger.ZERO;
        for (int bits : rotations) {
            answer = answer.xor(rotated(word, bits));
        }
        return answer;
    }

    /** Solves for the word that is spread into this one, bit by bit, by taking rows from one another. */
    private BigInteger gathered(BigInteger word, List<Integer> rotations) {
        int width = numbers[0];
        BigInteger[] from = new BigInteger[width];
        BigInteger[] to = new BigInteger[width];
        for (int bit = 0; bit < width; bit++) {
            from[bit] = BigInteger.ONE.shiftLeft(bit);
            to[bit] = spread(from[bit], rotations);
        }
        for (int bit = 0; bit < width; bit++) {
            int pivot = bit;
            while (!to[pivot].testBit(bit)) {
                pivot++;
            }
            BigInteger swapped = to[pivot];
            to[pivot] = to[bit];
            to[bit] = swapped;
            swapped = from[pivot];
            from[pivot] = from[bit];
            from[bit] = swapped;
            for (int other = 0; other < width; other++) {
                if (other != bit && to[other].testBit(bit)) {
                    to[other] = to[other].xor(to[bit]);
                    from[other] = from[other].xor(from[bit]);
                }
            }
        }
        BigInteger answer = BigInteger.ZERO;
        for (int bit = 0; bit < width; bit++) {
            if (word.testBit(bit)) {
                answer = answer.xor(from[bit]);
            }
        }
        return answer;
    }
}

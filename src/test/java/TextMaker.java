import java.util.Random;

/** Makes texts that are descriptions, or nearly so, with every kind of fault now and then. */
final class TextMaker {
    private static final String SIGNS = "0123456789abcdefABCDKSij:;{}[]()<>#*+-=^&|~@,  xE!";

    private final Random random;
    private StringBuilder text;
    private int width;
    private int states;
    private int keys;
    private int tables;
    private int subkeys;
    private String open;
    private boolean isWritings;
    private double carelessness;

    TextMaker(long seed) {
        random = new Random(seed);
    }

    String next() {
        do {
            text = new StringBuilder();
            if (random.nextInt(8) == 0) {
                lookingBack();
            } else {
                descriptionOrNearlyOne();
            }
        } while (text.length() > 240);
        return text.toString();
    }

    private void descriptionOrNearlyOne() {
        carelessness = random.nextInt(3) == 0 ? 0.03 : 0.001;
        description();
        if (random.nextInt(3) == 0) {
            spoil();
        }
        if (random.nextInt(3) == 0) {
            spread();
        }
    }

    private boolean slip() {
        return random.nextDouble() < carelessness;
    }

    private String number(int value) {
        return (random.nextInt(15) == 0 ? "00" : "") + value;
    }

    private void description() {
        width = slip() ? 12 : 8 << random.nextInt(4);
        states = slip() ? random.nextInt(7) : 2 + random.nextInt(3);
        keys = slip() ? random.nextInt(7) : 1 + random.nextInt(4);
        text.append(number(width)).append(':').append(number(states)).append(':').append(number(keys)).append(';');
        tables = random.nextInt(3);
        for (int t = 0; t < tables + (slip() ? 1 : 0); t++) {
            table();
        }
        text.append('{');
        subkeys = 0;
        open = "";
        isWritings = true;
        things(random.nextInt(5));
        text.append("}{");
        isWritings = false;
        things(random.nextInt(9));
        text.append('}');
    }

    /** A description of loops whose WRITINGS look back at those of turns before, some a little too far. */
    private void lookingBack() {
        text.append("8:2:1;{>1;>2;");
        open = "";
        for (int n = random.nextInt(2); n >= 0; n--) {
            loopLookingBack();
        }
        text.append("}{}");
    }

    private void loopLookingBack() {
        char letter = open.equals("i") ? 'j' : open.equals("j") ? 'i' : random.nextBoolean() ? 'i' : 'j';
        int turns = random.nextInt(open.isEmpty() ? 6 : 2) == 0 ? 15 + random.nextInt(4) : random.nextInt(4);
        text.append(letter).append(turns).append('[');
        open += letter;
        for (int n = random.nextInt(4); n > 0; n--) {
            if (open.length() < 2 && random.nextInt(2) == 0) {
                loopLookingBack();
            } else {
                text.append(">S(").append(random.nextInt(3));
                for (int k = 0; k < open.length(); k++) {
                    int factor = random.nextBoolean() ? random.nextInt(4) : 16 + random.nextInt(4);
                    text.append('+').append(factor).append(open.charAt(k));
                }
                text.append(");");
            }
        }
        open = open.substring(0, open.length() - 1);
        text.append(']');
    }

    private void table() {
        text.append('#');
        if (random.nextBoolean()) {
            int factor = random.nextInt(4) == 0 ? random.nextInt(17) : 2 * random.nextInt(8) + 1;
            text.append('*').append(number(factor)).append('+').append(number(random.nextInt(slip() ? 30 : 16)));
        } else {
            StringBuilder digits = new StringBuilder("0123456789abcdef");
            for (int n = 0; n < 16; n++) {
                int other = random.nextInt(16);
                char digit = digits.charAt(n);
                digits.setCharAt(n, digits.charAt(other));
                digits.setCharAt(other, slip() ? '0' : digit);
            }
            text.append(digits);
        }
        text.append(';');
    }

    private void things(int count) {
        for (int n = 0; n < count; n++) {
            if (random.nextInt(4) == 0 && (open.length() < 2 || slip())) {
                loop();
            } else if (isWritings) {
                text.append('>');
                expression(0, ' ');
                text.append(';');
                subkeys++;
            } else {
                step();
            }
        }
    }

    private void loop() {
        char letter = random.nextBoolean() ? 'i' : 'j';
        if (open.indexOf(letter) >= 0 && !slip()) {
            letter = letter == 'i' ? 'j' : 'i';
        }
        int turns = slip() ? random.nextInt(30) : 1 + random.nextInt(random.nextInt(5) == 0 ? 16 : 4);
        text.append(letter).append(number(turns)).append('[');
        open += letter;
        int before = subkeys;
        things(random.nextInt(4));
        subkeys += (subkeys - before) * Math.max(0, turns - 1);
        open = open.substring(0, open.length() - 1);
        text.append(']');
    }

    private char state() {
        return (char) ('A' + random.nextInt(slip() ? 4 : Math.max(1, Math.min(4, states))));
    }

    private void step() {
        char subject = state();
        text.append(subject);
        int kind = random.nextInt(10);
        if (kind < 4) {
            text.append("^=+=-=".substring(kind % 3 * 2, kind % 3 * 2 + 2));
            expression(0, subject);
        } else if (kind == 4) {
            text.append("*=").append(number(random.nextInt(1 << Math.min(width, 20)) | (slip() ? 0 : 1)));
        } else if (kind == 5) {
            text.append('<').append(number(random.nextInt(width + (slip() ? 3 : 0))));
        } else if (kind == 6) {
            char other = state();
            char next = (char) ('A' + (subject - 'A' + 1) % Math.max(2, states));
            text.append('<').append(other == subject && !slip() ? next : other);
        } else if (kind == 7) {
            text.append(':').append(state());
        } else if (kind == 8 && (tables > 0 || slip())) {
            text.append('#').append(number(random.nextInt(tables + (slip() || tables == 0 ? 1 : 0))));
        } else {
            int count = slip() ? 1 + random.nextInt(6) : 1 + 2 * random.nextInt(3);
            for (int n = 0; n < count; n++) {
                text.append(n == 0 ? '@' : ',').append(number(random.nextInt(width + (slip() ? 3 : 0))));
            }
        }
        text.append(';');
    }

    private void expression(int depth, char subject) {
        int kind = random.nextInt(depth > 3 && random.nextInt(20) > 0 ? 5 : 9);
        if (kind == 0 && (!isWritings || slip())) {
            char state = state();
            text.append(state != subject || slip() ? state : subject == 'A' ? 'B' : 'A');
        } else if (kind <= 1 || kind == 2 && subkeys == 0) {
            text.append('K');
            index(keys);
        } else if (kind == 2) {
            text.append('S');
            index(subkeys);
        } else if (kind == 3 && (!open.isEmpty() || slip())) {
            text.append(letter());
        } else if (kind <= 4) {
            text.append(number(random.nextInt((1 << Math.min(width, 20)) + (slip() ? 300 : 0))));
        } else if (kind == 5) {
            text.append(random.nextInt(40) == 0 ? "~".repeat(random.nextInt(13)) : "~");
            expression(depth + 1, subject);
        } else {
            text.append('(');
            expression(depth + 1, subject);
            if (random.nextInt(3) == 0) {
                text.append('<').append(number(random.nextInt(width + (slip() ? 3 : 0))));
            } else {
                text.append("^&|+-*".charAt(random.nextInt(6)));
                expression(depth + 1, subject);
            }
            text.append(')');
        }
    }

    private char letter() {
        return slip() || open.isEmpty() ? "ij".charAt(random.nextInt(2)) : open.charAt(random.nextInt(open.length()));
    }

    private void index(int count) {
        text.append('(');
        int terms = 1 + random.nextInt(random.nextInt(3) == 0 ? 3 : 1);
        for (int n = 0; n < terms; n++) {
            text.append(n == 0 ? "" : "+");
            boolean hasLetter = !open.isEmpty() && random.nextInt(2) == 0 || slip();
            if (!hasLetter || random.nextInt(3) == 0) {
                int most = n == 0 && !hasLetter ? Math.max(1, count) : random.nextInt(10) == 0 ? 20 : 2;
                text.append(number(random.nextInt(random.nextInt(200) == 0 ? 1000000000 : most)));
            }
            text.append(hasLetter ? String.valueOf(letter()) : "");
        }
        text.append(')');
    }

    private void spoil() {
        for (int n = random.nextInt(2); n >= 0; n--) {
            int at = random.nextInt(text.length());
            int way = random.nextInt(5);
            char sign = SIGNS.charAt(random.nextInt(SIGNS.length()));
            if (way == 0) {
                text.deleteCharAt(at);
            } else if (way == 1) {
                text.insert(at, sign);
            } else if (way == 2) {
                text.setCharAt(at, sign);
            } else if (way == 3) {
                text.insert(at, text.substring(at, Math.min(text.length(), at + 1 + random.nextInt(8))));
            } else if (random.nextInt(4) == 0) {
                text.setLength(at + 1);
            }
        }
    }

    private void spread() {
        for (int n = random.nextInt(6); n >= 0; n--) {
            text.insert(random.nextInt(text.length() + 1), " ".repeat(1 + random.nextInt(3)));
        }
    }
}

/**
 * Reads a short text that describes a cipher, refuses what is no such text and what cannot be undone,
 * turns it into code, runs that code forward and backward, and writes the text in its standard form.
 */
public final class CipherNotation {
    public static final int NONE = -1;

    private static final int MOST_CHARACTERS = 240;
    private static final int MOST_DIGITS = 9;
    private static final int MOST_TABLES = 2;
    private static final int TABLE_SIZE = 16;
    private static final int LETTERS = 2;
    private static final int MOST_LOOPS_OPEN = 2;
    private static final int MOST_TURNS = 16;
    private static final int MOST_SIGNS_OPEN = 12;
    private static final int MOST_ROTATIONS = 5;
    private static final int MOST_STATES = 4;
    private static final int MOST_KEYS = 4;
    private static final int MOST_SUBKEYS = 32;
    private static final int MOST_INSTRUCTIONS = 400;
    private static final int MOST_REGISTERS = 8;

    // what number() tells of a program
    private static final int WIDTH = 0;
    private static final int STATES = 1;
    private static final int KEYS = 2;
    private static final int TABLES = 3;
    private static final int SUBKEYS = 4;
    private static final int STEPS = 5;
    private static final int INSTRUCTIONS = 6;
    private static final int REGISTERS = 7;
    private static final int NUMBERS = 8;

    // the codes of the faults
    private static final int NO_FAULT = 0;
    private static final int NO_DESCRIPTION = 1;
    private static final int WRONG_SIZE = 2;
    private static final int OUT_OF_RANGE = 3;
    private static final int NOT_THERE = 4;
    private static final int NOT_UNDONE = 5;
    private static final int TOO_LARGE = 6;

    // what a line of a program does, and what a part of an expression is: others are told by their sign in the text
    private static final int WRITING = '>';
    private static final int LOOP = '[';
    private static final int LOOP_END = ']';
    private static final int ROTATE = '<';
    private static final int ROTATE_BY_WORD = 'w';
    private static final int EXACT = 'n';
    private static final int STATE_WORD = 'A';
    private static final int KEY_WORD = 'K';
    private static final int SUBKEY = 'S';

    private static final String DIGITS = "0123456789abcdef";
    private static final String SIGNS_BEHIND_A_PART = "^&|+-*<";

    private final char[] text;
    private int length;
    private int faultPlace;
    private final Reader reader;
    private final Machine machine;
    private Program program;
    private Program spare;

    public CipherNotation() {
        text = new char[MOST_CHARACTERS];
        length = 0;
        faultPlace = NONE;
        reader = new Reader();
        machine = new Machine();
        program = null;
        spare = new Program();
    }

    public int write(long characters) {
        int added = 0;
        for (int shift = 0; shift < 64; shift += 8) {
            int character = (int) (characters >>> shift) & 255;
            if (character != 0) {
                if (character < ' ' || character > '~') {
                    return NONE;
                }
                added++;
            }
        }
        if (length + added > MOST_CHARACTERS) {
            return NONE;
        }
        for (int shift = 0; shift < 64; shift += 8) {
            int character = (int) (characters >>> shift) & 255;
            if (character != 0) {
                text[length++] = (char) character;
            }
        }
        return length;
    }

    public int wipe() {
        int had = length;
        length = 0;
        return had;
    }

    public int compile() {
        int fault = reader.read(text, length, spare);
        faultPlace = reader.faultPlace;
        if (fault == NO_FAULT) {
            Program former = program;
            program = spare;
            // a program that stands must outlive texts with faults, so texts are read into another one
            spare = former == null ? new Program() : former;
            machine.load(program);
        }
        return fault;
    }

    public int place() {
        return faultPlace;
    }

    public int number(int what) throws IllegalStateException, IllegalArgumentException {
        needProgram();
        if (what < 0 || what >= NUMBERS) {
            throw new IllegalArgumentException();
        }
        return program.numbers[what];
    }

    public int print(int i) {
        if (program == null || i < 0 || i >= program.formSize) {
            return NONE;
        }
        return program.form[i];
    }

    public int table(int t, int i, boolean back) throws IllegalStateException, IndexOutOfBoundsException {
        needProgram();
        needIndex(t, program.numbers[TABLES]);
        needIndex(i, TABLE_SIZE);
        int[] row = back ? program.backEntries : program.entries;
        return row[t * TABLE_SIZE + i];
    }

    public long key(int i, long x) throws IllegalStateException, IndexOutOfBoundsException, IllegalArgumentException {
        needProgram();
        needIndex(i, program.numbers[KEYS]);
        needWord(x);
        long was = machine.keys[i];
        machine.keys[i] = x;
        return was;
    }

    public long state(int i, long x) throws IllegalStateException, IndexOutOfBoundsException, IllegalArgumentException {
        needProgram();
        needIndex(i, program.numbers[STATES]);
        needWord(x);
        long was = machine.states[i];
        machine.states[i] = x;
        return was;
    }

    public long keyWord(int i) throws IllegalStateException, IndexOutOfBoundsException {
        needProgram();
        needIndex(i, program.numbers[KEYS]);
        return machine.keys[i];
    }

    public long word(int i) throws IllegalStateException, IndexOutOfBoundsException {
        needProgram();
        needIndex(i, program.numbers[STATES]);
        return machine.states[i];
    }

    public long subkey(int i) throws IllegalStateException, IndexOutOfBoundsException {
        needProgram();
        needIndex(i, program.numbers[SUBKEYS]);
        machine.makeSubkeys();
        return machine.subkeys[i];
    }

    public int encrypt() throws IllegalStateException {
        needProgram();
        machine.go(0, program.numbers[STEPS]);
        return program.numbers[INSTRUCTIONS];
    }

    public int decrypt() throws IllegalStateException {
        needProgram();
        machine.go(program.numbers[STEPS], 0);
        return program.numbers[INSTRUCTIONS];
    }

    public int apply(int from, int to) throws IllegalStateException, IllegalArgumentException {
        needProgram();
        int steps = program.numbers[STEPS];
        if (from < 0 || from > steps || to < 0 || to > steps) {
            throw new IllegalArgumentException();
        }
        machine.go(from, to);
        return from < to ? to - from : from - to;
    }

    private void needProgram() {
        if (program == null) {
            throw new IllegalStateException();
        }
    }

    private static void needIndex(int i, int count) {
        if (i < 0 || i >= count) {
            throw new IndexOutOfBoundsException();
        }
    }

    private void needWord(long x) {
        if ((x & ~machine.mask) != 0) {
            throw new IllegalArgumentException();
        }
    }

    /**
     * Expressions, each part behind those that it is made of, so that a stack is all that running them takes.
     * Each part takes a sign of the text at least, so there are never more parts than characters.
     */
    private static final class Code {
        static final int USES_KEY = 1 << MOST_STATES;

        final int[] kind;
        // a number, LETTER or INDEX is base + perI * i + perJ * j; a STATE and a rotation have their number in base
        final long[] base;
        final long[] perI;
        final long[] perJ;
        // where the K or S of an index stands that is yet to be checked, else NONE
        final int[] place;
        // a bit for each STATE, and USES_KEY for K and S: a part without any is constant
        final int[] uses;
        final int[] cost;
        final int[] need;
        int size;

        Code() {
            kind = new int[MOST_CHARACTERS];
            base = new long[MOST_CHARACTERS];
            perI = new long[MOST_CHARACTERS];
            perJ = new long[MOST_CHARACTERS];
            place = new int[MOST_CHARACTERS];
            uses = new int[MOST_CHARACTERS];
            cost = new int[MOST_CHARACTERS];
            need = new int[MOST_CHARACTERS];
            size = 0;
        }

        int addConstant(long number) {
            return add(EXACT, number, 0, 1, 1);
        }

        int addState(int which) {
            return add(STATE_WORD, which, 1 << which, 0, 0);
        }

        int addIndexed(int kindOfPart, int placeOfPart) {
            int part = add(kindOfPart, 0, USES_KEY, 1, 1);
            place[part] = placeOfPart;
            return part;
        }

        /** A part made of one other, by ~ or a rotation. */
        int addOver(int kindOfPart, int inner, int number) {
            if (uses[inner] == 0) {
                return add(kindOfPart, number, 0, 1, 1);
            }
            return add(kindOfPart, number, uses[inner], cost[inner] + 1, Math.max(1, need[inner]));
        }

        int addJoined(int kindOfPart, int left, int right) {
            int usesOfBoth = uses[left] | uses[right];
            if (usesOfBoth == 0) {
                return add(kindOfPart, 0, 0, 1, 1);
            }
            int needOfBoth = need[left] == need[right] ? need[left] + 1 : Math.max(need[left], need[right]);
            return add(kindOfPart, 0, usesOfBoth, cost[left] + cost[right] + 1, needOfBoth);
        }

        void addLetter(int part, int letter, long times) {
            if (letter == 0) {
                perI[part] += times;
            } else {
                perJ[part] += times;
            }
        }

        long exact(int part, int i, int j) {
            return base[part] + perI[part] * i + perJ[part] * j;
        }

        private int add(int kindOfPart, long number, int usesOfPart, int costOfPart, int needOfPart) {
            int part = size++;
            kind[part] = kindOfPart;
            base[part] = number;
            perI[part] = 0;
            perJ[part] = 0;
            place[part] = NONE;
            uses[part] = usesOfPart;
            cost[part] = costOfPart;
            need[part] = needOfPart;
            return part;
        }
    }

    /** The WRITINGS and steps in the order of the text, and the beginnings and ends of the loops around them. */
    private static final class Lines {
        // a loop's two lines take four signs of the text at least, every other line three
        static final int MOST = MOST_CHARACTERS / 2;

        final int[] kind;
        // the STATE that a step changes, the LETTER of a loop (0 is i)
        final int[] subject;
        // the number, STATE or table behind a step's sign, a loop's turns, for a loop's end the line of its beginning
        final int[] operand;
        // the parts of its expression, or the numbers behind @, are first .. end - 1 of the code
        final int[] first;
        final int[] end;
        // for a WRITING how many stand before it in the first turns of its loops, for a loop how many are in one turn
        final int[] writings;
        int size;

        Lines() {
            kind = new int[MOST];
            subject = new int[MOST];
            operand = new int[MOST];
            first = new int[MOST];
            end = new int[MOST];
            writings = new int[MOST];
            size = 0;
        }

        int add(int kindOfLine, int subjectOfLine, int operandOfLine, int firstPart) {
            int line = size++;
            kind[line] = kindOfLine;
            subject[line] = subjectOfLine;
            operand[line] = operandOfLine;
            first[line] = firstPart;
            end[line] = firstPart;
            writings[line] = 0;
            return line;
        }
    }

    /** What a text without faults says. */
    private static final class Program {
        // blanks and zeros only leave the standard form; a table of at least six characters may become one of eighteen
        static final int MOST_OF_FORM = MOST_CHARACTERS + 12 * MOST_TABLES;
        // far above what 400 instructions in loops can take, as no loop is empty
        static final int MOST_LINES_DONE = 10000;

        final int[] numbers;
        final int[] entries;
        final int[] backEntries;
        final Code code;
        final Lines lines;
        // what is done, turn by turn: line * 256 + i * 16 + j, all WRITINGS before all steps
        final int[] order;
        // by LETTER, while what is done is laid out
        private final int[] turn;
        final char[] form;
        int formSize;

        Program() {
            numbers = new int[NUMBERS];
            entries = new int[MOST_TABLES * TABLE_SIZE];
            backEntries = new int[MOST_TABLES * TABLE_SIZE];
            code = new Code();
            lines = new Lines();
            order = new int[MOST_INSTRUCTIONS];
            turn = new int[LETTERS];
            form = new char[MOST_OF_FORM];
            formSize = 0;
        }

        void clear() {
            for (int what = 0; what < NUMBERS; what++) {
                numbers[what] = 0;
            }
            code.size = 0;
            lines.size = 0;
            formSize = 0;
        }

        boolean isTooLarge() {
            return numbers[SUBKEYS] > MOST_SUBKEYS || numbers[INSTRUCTIONS] > MOST_INSTRUCTIONS
                || numbers[REGISTERS] > MOST_REGISTERS;
        }

        void turnTableRound(int t) {
            int from = t * TABLE_SIZE;
            for (int i = 0; i < TABLE_SIZE; i++) {
                backEntries[from + i] = NONE;
            }
            // downward, so that the least one stays when there are several
            for (int i = TABLE_SIZE - 1; i >= 0; i--) {
                backEntries[from + entries[from + i]] = i;
            }
        }

        boolean canTableBeUndone(int t) {
            for (int i = 0; i < TABLE_SIZE; i++) {
                if (backEntries[t * TABLE_SIZE + i] == NONE) {
                    return false;
                }
            }
            return true;
        }

        void layOut() {
            turn[0] = 0;
            turn[1] = 0;
            int line = 0;
            int done = 0;
            for (int n = 0; n < MOST_LINES_DONE && line < lines.size && done < MOST_INSTRUCTIONS; n++) {
                int kind = lines.kind[line];
                int subject = lines.subject[line];
                if (kind == LOOP) {
                    turn[subject] = 0;
                    line++;
                } else if (kind == LOOP_END) {
                    int beginning = lines.operand[line];
                    turn[subject]++;
                    if (turn[subject] < lines.operand[beginning]) {
                        line = beginning + 1;
                    } else {
                        turn[subject] = 0;
                        line++;
                    }
                } else {
                    order[done++] = (line * MOST_TURNS + turn[0]) * MOST_TURNS + turn[1];
                    line++;
                }
            }
        }
    }

    /**
     * Reads a text into a program, sign by sign: as any sign that may stand somewhere can be followed up to a whole
     * description, the first one that may not stand where it does is the place of the fault that makes it none.
     * What reads a piece of the text answers false or NONE there, with that sign as the next one to read.
     */
    private static final class Reader {
        static final char END = 0;
        static final int CODES = 8;
        static final int NOTHING_NOTED = (MOST_CHARACTERS + 1) * CODES;
        // above all numbers of nine digits
        static final int NO_BOUND = 1000000000;

        // the text without its blanks, END behind it, and where its signs stand
        private final char[] signs;
        private final int[] places;
        private int size;
        private int at;
        private Program program;
        private Code code;
        private Lines lines;
        // place * CODES + code of the first fault there is so far
        private int leastFault;
        // how many STATES an expression or step may name here
        private int statesNamed;
        private int open;
        private final int[] openLines;
        private final int[] countsAtOpening;
        // for checking indexes, by LETTER: the turns of its loop, and how many subkeys one of them writes
        private final int[] turns;
        private final int[] growth;
        int faultPlace;

        Reader() {
            signs = new char[MOST_CHARACTERS + 1];
            places = new int[MOST_CHARACTERS + 1];
            openLines = new int[MOST_LOOPS_OPEN];
            countsAtOpening = new int[MOST_LOOPS_OPEN * NUMBERS];
            turns = new int[LETTERS];
            growth = new int[LETTERS];
            faultPlace = NONE;
        }

        /** The code of the text's fault, whose place is faultPlace then; NO_FAULT when target is its program. */
        int read(char[] text, int length, Program target) {
            program = target;
            code = target.code;
            lines = target.lines;
            target.clear();
            leastFault = NOTHING_NOTED;
            leaveOutBlanks(text, length);
            if (!(sizes() && tables() && block(true) && block(false) && at == size)) {
                faultPlace = places[at];
                return NO_DESCRIPTION;
            }
            checkIndexes();
            if (leastFault != NOTHING_NOTED) {
                faultPlace = leastFault / CODES;
                return leastFault % CODES;
            }
            faultPlace = NONE;
            if (target.isTooLarge()) {
                return TOO_LARGE;
            }
            target.layOut();
            putForm();
            return NO_FAULT;
        }

        private void leaveOutBlanks(char[] text, int length) {
            size = 0;
            for (int place = 0; place < length; place++) {
                if (text[place] != ' ') {
                    signs[size] = text[place];
                    places[size] = place;
                    size++;
                }
            }
            signs[size] = END;
            places[size] = length;
            at = 0;
        }

        private void note(int place, int fault) {
            leastFault = Math.min(leastFault, place * CODES + fault);
        }

        private boolean take(char sign) {
            if (signs[at] != sign) {
                return false;
            }
            at++;
            return true;
        }

        private static boolean isDigit(char sign) {
            return sign >= '0' && sign <= '9';
        }

        private static boolean isLetter(char sign) {
            return sign == 'i' || sign == 'j';
        }

        /**
         * Notes a fault when the number is bound or more. Digits behind a blank, or behind nine others, are left to be
         * refused: nothing that may follow a number begins with one.
         */
        private int takeNumber(int bound) {
            int first = at;
            int value = 0;
            for (int n = 0; n < MOST_DIGITS && isDigit(signs[at]) && places[at] == places[first] + n; n++) {
                value = value * 10 + (signs[at] - '0');
                at++;
            }
            if (value >= bound) {
                note(places[first], OUT_OF_RANGE);
            }
            return at == first ? NONE : value;
        }

        private int takeState() {
            char sign = signs[at];
            if (sign < 'A' || sign >= 'A' + MOST_STATES) {
                return NONE;
            }
            int which = sign - 'A';
            if (which >= statesNamed) {
                note(places[at], NOT_THERE);
            }
            at++;
            return which;
        }

        private int wordBound() {
            int width = program.numbers[WIDTH];
            return width <= 16 ? 1 << width : NO_BOUND;
        }

        private boolean sizes() {
            for (int what = WIDTH; what <= KEYS; what++) {
                int place = places[at];
                int value = takeNumber(NO_BOUND);
                if (value == NONE || !take(what == KEYS ? ';' : ':')) {
                    return false;
                }
                if (!isSize(what, value)) {
                    note(place, WRONG_SIZE);
                }
                program.numbers[what] = value;
            }
            program.numbers[REGISTERS] = program.numbers[STATES];
            return true;
        }

        private static boolean isSize(int what, int value) {
            if (what == WIDTH) {
                return value == 8 || value == 16 || value == 32 || value == 64;
            }
            return what == STATES ? value >= 2 && value <= MOST_STATES : value >= 1 && value <= MOST_KEYS;
        }

        private boolean tables() {
            for (int t = 0; t < MOST_TABLES && signs[at] == '#'; t++) {
                at++;
                boolean isThere = signs[at] == '*' ? tableByRule(t) : tableByDigits(t);
                if (!isThere || !take(';')) {
                    return false;
                }
                program.turnTableRound(t);
                program.numbers[TABLES]++;
            }
            return true;
        }

        private boolean tableByRule(int t) {
            at++;
            int factor = takeNumber(TABLE_SIZE);
            if (factor == NONE || !take('+')) {
                return false;
            }
            int addend = takeNumber(TABLE_SIZE);
            if (addend == NONE) {
                return false;
            }
            for (int i = 0; i < TABLE_SIZE; i++) {
                program.entries[t * TABLE_SIZE + i] = (i * factor + addend) & (TABLE_SIZE - 1);
            }
            return true;
        }

        private boolean tableByDigits(int t) {
            for (int i = 0; i < TABLE_SIZE; i++) {
                int digit = DIGITS.indexOf(signs[at]);
                if (digit < 0) {
                    return false;
                }
                program.entries[t * TABLE_SIZE + i] = digit;
                at++;
            }
            return true;
        }

        private boolean block(boolean ofWritings) {
            if (!take('{')) {
                return false;
            }
            statesNamed = ofWritings ? 0 : program.numbers[STATES];
            open = 0;
            for (int n = 0; n < MOST_CHARACTERS && signs[at] != '}'; n++) {
                boolean isThere;
                if (isLetter(signs[at])) {
                    isThere = openLoop();
                } else if (signs[at] == ']') {
                    isThere = closeLoop();
                } else {
                    isThere = ofWritings ? writing() : step();
                }
                if (!isThere) {
                    return false;
                }
            }
            return open == 0 && take('}');
        }

        private boolean isOpen(int letter) {
            for (int n = 0; n < open; n++) {
                if (lines.subject[openLines[n]] == letter) {
                    return true;
                }
            }
            return false;
        }

        private boolean openLoop() {
            if (open == MOST_LOOPS_OPEN) {
                return false;
            }
            int letter = signs[at] - 'i';
            if (isOpen(letter)) {
                note(places[at], NOT_THERE);
            }
            at++;
            int place = places[at];
            int times = takeNumber(MOST_TURNS + 1);
            if (times == NONE || !take('[')) {
                return false;
            }
            if (times < 1) {
                note(place, OUT_OF_RANGE);
            }
            openLines[open] = lines.add(LOOP, letter, Math.min(times, MOST_TURNS), code.size);
            for (int what = SUBKEYS; what <= INSTRUCTIONS; what++) {
                countsAtOpening[open * NUMBERS + what] = program.numbers[what];
            }
            open++;
            return true;
        }

        private boolean closeLoop() {
            if (open == 0) {
                return false;
            }
            at++;
            open--;
            int beginning = openLines[open];
            if (beginning == lines.size - 1) {
                // a loop of nothing does nothing: without its line no turn of it is ever laid out
                lines.size = beginning;
                return true;
            }
            lines.writings[beginning] = program.numbers[SUBKEYS] - countsAtOpening[open * NUMBERS + SUBKEYS];
            for (int what = SUBKEYS; what <= INSTRUCTIONS; what++) {
                int inOneTurn = program.numbers[what] - countsAtOpening[open * NUMBERS + what];
                program.numbers[what] += inOneTurn * (lines.operand[beginning] - 1);
            }
            lines.add(LOOP_END, lines.subject[beginning], beginning, code.size);
            return true;
        }

        private boolean writing() {
            if (!take('>')) {
                return false;
            }
            int line = lines.add(WRITING, 0, 0, code.size);
            int root = expression(0);
            if (root == NONE || !take(';')) {
                return false;
            }
            lines.end[line] = code.size;
            lines.writings[line] = program.numbers[SUBKEYS];
            program.numbers[SUBKEYS]++;
            countExpression(root);
            return true;
        }

        private boolean step() {
            int place = places[at];
            int subject = takeState();
            if (subject == NONE) {
                return false;
            }
            int kind = signs[at];
            int line = lines.add(kind, subject, 0, code.size);
            int operand = NONE;
            if (kind == '^' || kind == '+' || kind == '-') {
                at++;
                operand = take('=') ? expression(0) : NONE;
            } else if (kind == '*') {
                at++;
                operand = take('=') ? takeNumber(wordBound()) : NONE;
            } else if (kind == ROTATE) {
                at++;
                operand = rotation(line);
            } else if (kind == ':') {
                at++;
                operand = takeState();
            } else if (kind == '#') {
                at++;
                operand = tableNumber();
            } else if (kind == '@') {
                at++;
                operand = rotations();
            }
            if (operand == NONE || !take(';')) {
                return false;
            }
            lines.operand[line] = operand;
            lines.end[line] = code.size;
            countStep(line);
            if (!canBeUndone(line)) {
                note(place, NOT_UNDONE);
            }
            return true;
        }

        private int rotation(int line) {
            if (isDigit(signs[at])) {
                return takeNumber(program.numbers[WIDTH]);
            }
            lines.kind[line] = ROTATE_BY_WORD;
            return takeState();
        }

        private int tableNumber() {
            int place = places[at];
            int value = takeNumber(NO_BOUND);
            if (value >= program.numbers[TABLES]) {
                note(place, NOT_THERE);
            }
            return value;
        }

        /** How many numbers stand behind an @. */
        private int rotations() {
            for (int n = 1; n <= MOST_ROTATIONS; n++) {
                int value = takeNumber(program.numbers[WIDTH]);
                if (value == NONE) {
                    return NONE;
                }
                code.addConstant(value);
                if (n == MOST_ROTATIONS || !take(',')) {
                    return n;
                }
            }
            return NONE;
        }

        private boolean canBeUndone(int line) {
            int subject = lines.subject[line];
            int operand = lines.operand[line];
            switch (lines.kind[line]) {
                case '^':
                case '+':
                case '-':
                    return (code.uses[operand] & 1 << subject) == 0;
                case '*':
                case '@':
                    return operand % 2 == 1;
                case ROTATE_BY_WORD:
                    return operand != subject;
                case '#':
                    return operand >= program.numbers[TABLES] || program.canTableBeUndone(operand);
                default:
                    return true;
            }
        }

        private void countStep(int line) {
            program.numbers[STEPS]++;
            int kind = lines.kind[line];
            if (kind == '^' || kind == '+' || kind == '-') {
                countExpression(lines.operand[line]);
            } else {
                program.numbers[INSTRUCTIONS]++;
            }
        }

        private void countExpression(int root) {
            program.numbers[INSTRUCTIONS] += code.cost[root] + 1;
            int registers = program.numbers[STATES] + code.need[root];
            program.numbers[REGISTERS] = Math.max(program.numbers[REGISTERS], registers);
        }

        /** The last part of the expression that stands here, within as many open ~ and ( as depth says. */
        private int expression(int depth) {
            char sign = signs[at];
            int place = places[at];
            if (sign == '~' || sign == '(') {
                if (depth == MOST_SIGNS_OPEN) {
                    return NONE;
                }
                at++;
                int inner = expression(depth + 1);
                if (inner == NONE) {
                    return NONE;
                }
                return sign == '~' ? code.addOver('~', inner, 0) : restOfBracket(inner, depth);
            }
            if (sign == KEY_WORD || sign == SUBKEY) {
                at++;
                return index(code.addIndexed(sign, place));
            }
            if (isLetter(sign)) {
                int part = code.addConstant(0);
                takeLetter(part, 1);
                return part;
            }
            if (isDigit(sign)) {
                return code.addConstant(takeNumber(wordBound()));
            }
            int which = takeState();
            return which == NONE ? NONE : code.addState(which);
        }

        private int restOfBracket(int left, int depth) {
            char sign = signs[at];
            if (SIGNS_BEHIND_A_PART.indexOf(sign) < 0) {
                return NONE;
            }
            at++;
            if (sign == ROTATE) {
                int bits = takeNumber(program.numbers[WIDTH]);
                return bits != NONE && take(')') ? code.addOver(ROTATE, left, bits) : NONE;
            }
            int right = expression(depth + 1);
            return right != NONE && take(')') ? code.addJoined(sign, left, right) : NONE;
        }

        private int index(int part) {
            if (!take('(')) {
                return NONE;
            }
            for (int n = 0; n < MOST_CHARACTERS; n++) {
                int value = takeNumber(NO_BOUND);
                if (isLetter(signs[at])) {
                    takeLetter(part, value == NONE ? 1 : value);
                } else if (value == NONE) {
                    return NONE;
                } else {
                    code.base[part] += value;
                }
                if (!take('+')) {
                    break;
                }
            }
            return take(')') ? part : NONE;
        }

        private void takeLetter(int part, int times) {
            int letter = signs[at] - 'i';
            if (!isOpen(letter)) {
                note(places[at], NOT_THERE);
                code.place[part] = NONE;
            }
            code.addLetter(part, letter, times);
            at++;
        }

        /** Behind all reading, as how many subkeys a turn of a loop writes is known at the loop's end alone. */
        private void checkIndexes() {
            for (int letter = 0; letter < LETTERS; letter++) {
                turns[letter] = 1;
                growth[letter] = 0;
            }
            for (int line = 0; line < lines.size; line++) {
                int letter = lines.subject[line];
                if (lines.kind[line] == LOOP) {
                    turns[letter] = lines.operand[line];
                    growth[letter] = lines.writings[line];
                } else if (lines.kind[line] == LOOP_END) {
                    turns[letter] = 1;
                    growth[letter] = 0;
                } else {
                    checkIndexesOf(line);
                }
            }
        }

        private void checkIndexesOf(int line) {
            boolean isWriting = lines.kind[line] == WRITING;
            int subkeys = isWriting ? lines.writings[line] : program.numbers[SUBKEYS];
            for (int part = lines.first[line]; part < lines.end[line]; part++) {
                int kind = code.kind[part];
                boolean isTooGreat = kind == KEY_WORD && comesUpTo(part, program.numbers[KEYS], false)
                    || kind == SUBKEY && comesUpTo(part, subkeys, isWriting);
                if (isTooGreat && code.place[part] != NONE) {
                    note(code.place[part], OUT_OF_RANGE);
                }
            }
        }

        /**
         * Whether an index comes up to a count in some turn, where the count may grow as subkeys are written: both grow
         * evenly, so the index is greatest against the count in the first or the last turn of each loop.
         */
        private boolean comesUpTo(int part, int count, boolean isGrowing) {
            long moreByI = code.perI[part] - (isGrowing ? growth[0] : 0);
            long moreByJ = code.perJ[part] - (isGrowing ? growth[1] : 0);
            long most = code.base[part] + Math.max(0, moreByI * (turns[0] - 1)) + Math.max(0, moreByJ * (turns[1] - 1));
            return most >= count;
        }

        private void putForm() {
            int from = 0;
            while (from < size && signs[from] != '#' && signs[from] != '{') {
                from++;
            }
            putSigns(0, from);
            for (int t = 0; t < program.numbers[TABLES]; t++) {
                putTable(t);
            }
            while (from < size && signs[from] != '{') {
                from++;
            }
            putSigns(from, size);
        }

        private void putTable(int t) {
            put('#');
            for (int i = 0; i < TABLE_SIZE; i++) {
                put(DIGITS.charAt(program.entries[t * TABLE_SIZE + i]));
            }
            put(';');
        }

        private void putSigns(int from, int to) {
            boolean isWithinNumber = false;
            for (int k = from; k < to; k++) {
                boolean isZeroInFront = signs[k] == '0' && !isWithinNumber && isDigit(signs[k + 1]);
                if (!isZeroInFront) {
                    put(signs[k]);
                    isWithinNumber = isDigit(signs[k]);
                }
            }
        }

        private void put(char sign) {
            program.form[program.formSize++] = sign;
        }
    }

    /** The words of a program, and what its code does with them. */
    private static final class Machine {
        // twelve open brackets hold a value each beside the one at work
        static final int MOST_VALUES = MOST_SIGNS_OPEN + 1;

        final long[] keys;
        final long[] states;
        final long[] subkeys;
        private final long[] values;
        private Program program;
        private Code code;
        private Lines lines;
        private int width;
        long mask;

        Machine() {
            keys = new long[MOST_KEYS];
            states = new long[MOST_STATES];
            subkeys = new long[MOST_SUBKEYS];
            values = new long[MOST_VALUES];
        }

        void load(Program loaded) {
            program = loaded;
            code = loaded.code;
            lines = loaded.lines;
            width = loaded.numbers[WIDTH];
            mask = -1L >>> (64 - width);
            for (int i = 0; i < MOST_KEYS; i++) {
                keys[i] = 0;
            }
            for (int i = 0; i < MOST_STATES; i++) {
                states[i] = 0;
            }
        }

        void makeSubkeys() {
            for (int i = 0; i < program.numbers[SUBKEYS]; i++) {
                subkeys[i] = value(program.order[i]);
            }
        }

        /** Does the steps from .. to - 1, or undoes from - 1 .. to when to is less. */
        void go(int from, int to) {
            makeSubkeys();
            int steps = program.numbers[SUBKEYS];
            for (int k = from; k < to; k++) {
                change(program.order[steps + k], false);
            }
            for (int k = from - 1; k >= to; k--) {
                change(program.order[steps + k], true);
            }
        }

        private void change(int done, boolean back) {
            int line = done / (MOST_TURNS * MOST_TURNS);
            int subject = lines.subject[line];
            int operand = lines.operand[line];
            long word = states[subject];
            switch (lines.kind[line]) {
                case '^':
                    word ^= value(done);
                    break;
                case '+':
                    word += back ? -value(done) : value(done);
                    break;
                case '-':
                    word -= back ? -value(done) : value(done);
                    break;
                case '*':
                    word *= back ? inverse(operand) : operand;
                    break;
                case ROTATE:
                    word = rotated(word, back ? -operand : operand);
                    break;
                case ROTATE_BY_WORD:
                    word = rotated(word, back ? -states[operand] : states[operand]);
                    break;
                case ':':
                    word = states[operand];
                    states[operand] = states[subject];
                    break;
                case '#':
                    word = replaced(word, back ? program.backEntries : program.entries, operand * TABLE_SIZE);
                    break;
                default:
                    word = back ? gathered(word, line) : spread(word, line, 1);
                    break;
            }
            states[subject] = word & mask;
        }

        /** The word turned round to the left by bits modulo the width, a power of two. */
        private long rotated(long word, long bits) {
            int left = (int) bits & (width - 1);
            // for left = 0 the second part is 0, or for the width 64 the word itself, as Java shifts by 64 as by 0
            return (word << left | word >>> (width - left)) & mask;
        }

        private long replaced(long word, int[] row, int from) {
            long answer = 0;
            for (int shift = 0; shift < width; shift += 4) {
                int digit = (int) (word >>> shift) & (TABLE_SIZE - 1);
                answer |= (long) row[from + digit] << shift;
            }
            return answer;
        }

        private long spread(long word, int line, int times) {
            long answer = 0;
            for (int part = lines.first[line]; part < lines.end[line]; part++) {
                answer ^= rotated(word, code.base[part] * times);
            }
            return answer;
        }

        /**
         * Undoes spread. Squared, a sum of rotations is that of the rotations doubled, so done width times it is a sum
         * of an odd number of rotations by 0; what undoes it is doing it 1 + 2 + 4 + .. + width / 2 times.
         */
        private long gathered(long word, int line) {
            long answer = word;
            for (int times = 1; times < width; times *= 2) {
                answer = spread(answer, line, times);
            }
            return answer;
        }

        /** What an odd factor is undone by: each turn doubles how many low bits of it are right, from three on. */
        private static long inverse(long factor) {
            long answer = factor;
            for (int bits = 3; bits < 64; bits *= 2) {
                answer *= 2 - factor * answer;
            }
            return answer;
        }

        /** The value of the expression of a line, in the turn that done tells. */
        private long value(int done) {
            int line = done / (MOST_TURNS * MOST_TURNS);
            int i = done / MOST_TURNS % MOST_TURNS;
            int j = done % MOST_TURNS;
            int count = 0;
            for (int part = lines.first[line]; part < lines.end[line]; part++) {
                int kind = code.kind[part];
                if (kind == '~') {
                    values[count - 1] = ~values[count - 1] & mask;
                } else if (kind == ROTATE) {
                    values[count - 1] = rotated(values[count - 1], code.base[part]);
                } else if (SIGNS_BEHIND_A_PART.indexOf((char) kind) >= 0) {
                    count--;
                    values[count - 1] = joined(kind, values[count - 1], values[count]) & mask;
                } else {
                    values[count] = wordOf(kind, (int) code.exact(part, i, j));
                    count++;
                }
            }
            return values[0];
        }

        private long wordOf(int kind, int which) {
            switch (kind) {
                case STATE_WORD:
                    return states[which];
                case KEY_WORD:
                    return keys[which];
                case SUBKEY:
                    return subkeys[which];
                default:
                    return which;
            }
        }

        private static long joined(int kind, long left, long right) {
            switch (kind) {
                case '^':
                    return left ^ right;
                case '&':
                    return left & right;
                case '|':
                    return left | right;
                case '+':
                    return left + right;
                case '-':
                    return left - right;
                default:
                    return left * right;
            }
        }
    }
}

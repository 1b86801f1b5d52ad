/**
 * Patterns with unions, intersections, complements and loops over short texts.
 *
 * A pattern is read into a row of steps that work on a stack. A value on the stack tells, for every
 * place of a line of characters, how long the parts are that begin there and fit. Whether a part fits
 * hangs on its own characters alone, so complements cost no more than unions, and no pattern grows.
 */
public final class DerivativeMatcher {
    public static final int BAD = -1;
    public static final int NONE = -2;

    private static final char FIRST_CHARACTER = 32;
    private static final char LAST_CHARACTER = 126;
    private static final int BUFFER_LIMIT = 40;
    private static final int TEXT_LIMIT = 24;
    private static final int WRONG_BASE = -10;

    private static final char FIRST_LETTER = 'a';
    private static final int LETTERS = 3;
    private static final int WORD_LIMIT = 4;
    private static final int WORDS = 121;
    /** Every word of at most four letters a, b and c is a part of this line, so that one run judges all. */
    private static final String ALL_WORDS =
            "aaaabaaacaabbaabcaacbaaccababacabbbabbcabcbabccacacbbacbcaccbacccbbbbcbbccbcbccccaaa";
    private static final int LINE_LIMIT = 84;

    /** No character makes more than two steps; one more step begins the pattern. */
    private static final int STEP_LIMIT = 2 * BUFFER_LIMIT + 1;
    /** Each step that puts a value on the stack has a character of its own, but for the first step. */
    private static final int STACK_LIMIT = BUFFER_LIMIT + 1;
    private static final int LEVEL_LIMIT = BUFFER_LIMIT + 1;

    private static final int EMPTY = 0;
    private static final int RANGE = 1;
    private static final int JOIN = 2;
    private static final int EITHER = 3;
    private static final int BOTH = 4;
    private static final int NOT = 5;
    private static final int REPEAT = 6;
    /** As the most parts of a loop: as many as one likes. */
    private static final int MANY = -1;

    private final char[] buffer = new char[BUFFER_LIMIT];
    private int buffered = 0;
    private final Line textLine = new Line(new char[TEXT_LIMIT], 0, TEXT_LIMIT);
    private final Line wordLine = new Line(ALL_WORDS.toCharArray(), LINE_LIMIT, WORD_LIMIT);
    private final Pattern[] patterns = new Pattern[] {new Pattern(), new Pattern()};
    private final Reader reader = new Reader();
    private final Machine machine = new Machine();
    private final char[] letters = new char[WORD_LIMIT];
    private int lettersKept = 0;

    public DerivativeMatcher() {
    }

    public boolean type(char c) {
        if (c < FIRST_CHARACTER || c > LAST_CHARACTER || buffered >= BUFFER_LIMIT) {
            return false;
        }
        buffer[buffered] = c;
        buffered++;
        return true;
    }

    public int pattern(int p) {
        if (!isPattern(p)) {
            return BAD;
        }
        boolean right = reader.read(buffer, buffered);
        buffered = 0;
        if (!right) {
            return WRONG_BASE - reader.place();
        }
        patterns[p].program = reader.giveFor(patterns[p].program);
        patterns[p].partsKnown = false;
        patterns[p].wordsKnown = false;
        return 0;
    }

    public int text() {
        if (buffered > TEXT_LIMIT) {
            return BAD;
        }
        System.arraycopy(buffer, 0, textLine.characters, 0, buffered);
        textLine.length = buffered;
        buffered = 0;
        patterns[0].partsKnown = false;
        patterns[1].partsKnown = false;
        return textLine.length;
    }

    public boolean matches(int p) {
        return isPattern(p) && has(partsOf(patterns[p])[0], textLine.length);
    }

    public int find(int p, int from) {
        if (!isPattern(p) || from < 0 || from > textLine.length) {
            return BAD;
        }
        int[] parts = partsOf(patterns[p]);
        for (int begin = from; begin <= textLine.length; begin++) {
            int longest = longestOf(parts[begin]);
            if (longest >= 0) {
                return 100 * begin + begin + longest;
            }
        }
        return NONE;
    }

    public int count(int p) {
        if (!isPattern(p)) {
            return BAD;
        }
        int[] parts = partsOf(patterns[p]);
        int found = 0;
        int begin = 0;
        while (begin <= textLine.length) {
            int longest = longestOf(parts[begin]);
            if (longest >= 0) {
                found++;
            }
            begin += Math.max(longest, 1);
        }
        return found;
    }

    public int earliest(int p) {
        if (!isPattern(p)) {
            return BAD;
        }
        int[] parts = partsOf(patterns[p]);
        for (int end = 0; end <= textLine.length; end++) {
            for (int begin = 0; begin <= end; begin++) {
                if (has(parts[begin], end - begin)) {
                    return end;
                }
            }
        }
        return NONE;
    }

    public int shortest(int p, int n) {
        if (!isPattern(p) || n < 0 || n > WORD_LIMIT) {
            return BAD;
        }
        boolean[] words = wordsOf(patterns[p]);
        int limit = wordsUpTo(n);
        for (int number = 0; number < limit; number++) {
            if (words[number]) {
                return keepWord(number);
            }
        }
        return NONE;
    }

    public int difference(int n) {
        if (n < 0 || n > WORD_LIMIT) {
            return BAD;
        }
        boolean[] words = wordsOf(patterns[0]);
        boolean[] others = wordsOf(patterns[1]);
        int limit = wordsUpTo(n);
        for (int number = 0; number < limit; number++) {
            if (words[number] != others[number]) {
                return keepWord(number);
            }
        }
        return NONE;
    }

    public int word(int i) {
        return i < 0 || i >= lettersKept ? BAD : letters[i];
    }

    private static boolean isPattern(int p) {
        return p == 0 || p == 1;
    }

    /** Lengths are held as bits: bit k stands for the length k. */
    private static boolean has(int lengths, int length) {
        return (lengths >> length & 1) != 0;
    }

    private static int lengthsUpTo(int longest) {
        return (1 << longest + 1) - 1;
    }

    /** The greatest of the lengths, or -1 when there is none. */
    private static int longestOf(int lengths) {
        for (int length = TEXT_LIMIT; length >= 0; length--) {
            if (has(lengths, length)) {
                return length;
            }
        }
        return -1;
    }

    private int[] partsOf(Pattern pattern) {
        if (!pattern.partsKnown) {
            int[] fitting = machine.run(pattern.program, textLine);
            System.arraycopy(fitting, 0, pattern.parts, 0, textLine.length + 1);
            pattern.partsKnown = true;
        }
        return pattern.parts;
    }

    private boolean[] wordsOf(Pattern pattern) {
        if (!pattern.wordsKnown) {
            int[] fitting = machine.run(pattern.program, wordLine);
            for (int begin = 0; begin <= wordLine.length; begin++) {
                noteWords(begin, fitting[begin], pattern.words);
            }
            pattern.wordsKnown = true;
        }
        return pattern.words;
    }

    /**
     * The empty word has number 0, the words that are one letter longer than word k the numbers
     * 3 k + 1 to 3 k + 3: so the numbers go by length first, and by the alphabet then.
     */
    private void noteWords(int begin, int lengths, boolean[] words) {
        int reach = wordLine.reach(begin);
        int number = 0;
        words[number] = has(lengths, 0);
        for (int length = 1; length <= reach; length++) {
            number = LETTERS * number + 1 + wordLine.characters[begin + length - 1] - FIRST_LETTER;
            words[number] = has(lengths, length);
        }
    }

    private static int wordsUpTo(int n) {
        int words = 1;
        for (int length = 1; length <= n; length++) {
            words = LETTERS * words + 1;
        }
        return words;
    }

    private int keepWord(int number) {
        lettersKept = 0;
        for (int rest = number; rest > 0; rest = (rest - 1) / LETTERS) {
            lettersKept++;
        }
        int rest = number;
        for (int i = lettersKept - 1; i >= 0; i--) {
            letters[i] = (char) (FIRST_LETTER + (rest - 1) % LETTERS);
            rest = (rest - 1) / LETTERS;
        }
        return lettersKept;
    }

    /** A line of characters, in which parts of at most so many characters are looked at. */
    private static final class Line {
        final char[] characters;
        int length;
        final int longestPart;

        Line(char[] characters, int length, int longestPart) {
            this.characters = characters;
            this.length = length;
            this.longestPart = longestPart;
        }

        /** How long the longest part is that begins there. */
        int reach(int begin) {
            return Math.min(longestPart, length - begin);
        }
    }

    /** A pattern's program, and what it has answered since the pattern or the text changed. */
    private static final class Pattern {
        Program program = new Program();
        final int[] parts = new int[TEXT_LIMIT + 1];
        boolean partsKnown = false;
        final boolean[] words = new boolean[WORDS];
        boolean wordsKnown = false;

        Pattern() {
            program.add(EMPTY, 0, 0);
        }
    }

    /** The steps of a pattern, each behind those that make the values it works on. */
    private static final class Program {
        final int[] kinds = new int[STEP_LIMIT];
        final int[] lows = new int[STEP_LIMIT];
        final int[] highs = new int[STEP_LIMIT];
        int size = 0;

        void add(int kind, int low, int high) {
            if (size < STEP_LIMIT) {
                kinds[size] = kind;
                lows[size] = low;
                highs[size] = high;
                size++;
            }
        }
    }

    /** Runs a program over a line; the rows of its stack are made once. */
    private static final class Machine {
        private final int[][] stack = new int[STACK_LIMIT][LINE_LIMIT + 1];

        /** For each place the lengths of the parts that begin there and fit; good until the next run. */
        int[] run(Program program, Line line) {
            int height = 0;
            for (int step = 0; step < program.size && hasRowsFor(program.kinds[step], height); step++) {
                int low = program.lows[step];
                int high = program.highs[step];
                switch (program.kinds[step]) {
                    case EMPTY:
                        putEmpty(line, stack[height]);
                        height++;
                        break;
                    case RANGE:
                        putRange(line, stack[height], low, high);
                        height++;
                        break;
                    case JOIN:
                        height--;
                        join(line, stack[height - 1], stack[height]);
                        break;
                    case EITHER:
                        height--;
                        unite(line, stack[height - 1], stack[height]);
                        break;
                    case BOTH:
                        height--;
                        intersect(line, stack[height - 1], stack[height]);
                        break;
                    case NOT:
                        complement(line, stack[height - 1]);
                        break;
                    default:
                        repeat(line, stack[height - 1], stack[height], low, high);
                        break;
                }
            }
            return stack[0];
        }

        /** No program that was read lacks values or rows; yet each index is looked at before it is used. */
        private static boolean hasRowsFor(int kind, int height) {
            return height >= valuesTakenBy(kind) && height < STACK_LIMIT;
        }

        private static int valuesTakenBy(int kind) {
            switch (kind) {
                case EMPTY: case RANGE:
                    return 0;
                case NOT: case REPEAT:
                    return 1;
                default:
                    return 2;
            }
        }

        private static void putEmpty(Line line, int[] row) {
            for (int i = 0; i <= line.length; i++) {
                row[i] = 1;
            }
        }

        private static void putRange(Line line, int[] row, int first, int last) {
            for (int i = 0; i < line.length; i++) {
                char c = line.characters[i];
                row[i] = c >= first && c <= last ? 2 : 0;
            }
            row[line.length] = 0;
        }

        private static void unite(Line line, int[] row, int[] other) {
            for (int i = 0; i <= line.length; i++) {
                row[i] |= other[i];
            }
        }

        private static void intersect(Line line, int[] row, int[] other) {
            for (int i = 0; i <= line.length; i++) {
                row[i] &= other[i];
            }
        }

        private static void complement(Line line, int[] row) {
            for (int i = 0; i <= line.length; i++) {
                row[i] = ~row[i] & lengthsUpTo(line.reach(i));
            }
        }

        private static void join(Line line, int[] row, int[] behind) {
            for (int i = 0; i <= line.length; i++) {
                row[i] = lengthsThrough(line, i, row[i], behind);
            }
        }

        /** The lengths of what begins at a place with one of these lengths and goes on with the row. */
        private static int lengthsThrough(Line line, int begin, int lengths, int[] behind) {
            int reach = line.reach(begin);
            int through = 0;
            for (int length = 0; length <= reach; length++) {
                if (has(lengths, length)) {
                    through |= behind[begin + length] << length;
                }
            }
            return through & lengthsUpTo(reach);
        }

        /** The row becomes low to high parts that fit it; the spare row is written over. */
        private static void repeat(Line line, int[] row, int[] spare, int low, int high) {
            putEmpty(line, spare);
            for (int k = 0; k < low; k++) {
                join(line, spare, row);
            }
            // What is joined further may be empty, so that up to so many more parts are meant.
            int more = high == MANY ? 1 : high - low;
            if (high == MANY) {
                loop(line, row);
            } else {
                addEmpty(line, row);
            }
            for (int k = 0; k < more; k++) {
                join(line, spare, row);
            }
            System.arraycopy(spare, 0, row, 0, line.length + 1);
        }

        private static void addEmpty(Line line, int[] row) {
            for (int i = 0; i <= line.length; i++) {
                row[i] |= 1;
            }
        }

        /** From the right, as what comes behind a first part that is not empty has looped already. */
        private static void loop(Line line, int[] row) {
            for (int i = line.length; i >= 0; i--) {
                int firstParts = row[i] & ~1;
                row[i] = 1 | lengthsThrough(line, i, firstParts, row);
            }
        }
    }

    /**
     * Reads a pattern from the left and goes on only with a character with which some pattern goes on,
     * so the place where it stops is the place where the pattern is wrong. A level is what stands in
     * one pair of ( and ), the lowest one the whole pattern.
     */
    private static final class Reader {
        private final int[] nots = new int[LEVEL_LIMIT];
        private final boolean[] unionOpen = new boolean[LEVEL_LIMIT];
        private final boolean[] intersectionOpen = new boolean[LEVEL_LIMIT];
        private int level = 0;
        private final char[] source = new char[BUFFER_LIMIT];
        private int length = 0;
        private int at = 0;
        private Program program = new Program();

        /** Whether the first so many of the characters are a pattern. */
        boolean read(char[] characters, int size) {
            length = Math.min(size, BUFFER_LIMIT);
            System.arraycopy(characters, 0, source, 0, length);
            at = 0;
            program.size = 0;
            level = 0;
            beginLevel();
            // A turn reads a character at least; so it is in the loops over marks and items.
            for (int turn = 0; turn < length && at < length; turn++) {
                if (!readOn()) {
                    return false;
                }
            }
            if (level > 0 || nots[level] > 0) {
                return false;
            }
            endUnion();
            return true;
        }

        /** How many characters were read. */
        int place() {
            return at;
        }

        /** The program that was read, for an old one to write over at the next reading: none is made anew. */
        Program giveFor(Program old) {
            Program given = program;
            program = old;
            return given;
        }

        private void beginLevel() {
            nots[level] = 0;
            unionOpen[level] = false;
            intersectionOpen[level] = false;
            beginRow();
        }

        /** A row begins as the empty one, to which its pieces are joined. */
        private void beginRow() {
            program.add(EMPTY, 0, 0);
        }

        /** Reads one sign between pieces, one ( or ~, or one atom with its marks. */
        private boolean readOn() {
            switch (source[at]) {
                case '|':
                    return readUnionSign();
                case '&':
                    return readIntersectionSign();
                case '~':
                    at++;
                    nots[level]++;
                    return true;
                case '(':
                    return readOpening();
                case ')':
                    return readClosing() && endPiece();
                case '[':
                    return readClass() && endPiece();
                case '.':
                    at++;
                    program.add(RANGE, FIRST_CHARACTER, LAST_CHARACTER);
                    return endPiece();
                case '*': case '+': case '?': case '{': case '}': case ']':
                    return false;
                default:
                    program.add(RANGE, source[at], source[at]);
                    at++;
                    return endPiece();
            }
        }

        private boolean readUnionSign() {
            if (nots[level] > 0) {
                return false;
            }
            at++;
            endUnion();
            unionOpen[level] = true;
            intersectionOpen[level] = false;
            beginRow();
            return true;
        }

        private boolean readIntersectionSign() {
            if (nots[level] > 0) {
                return false;
            }
            at++;
            endIntersection();
            intersectionOpen[level] = true;
            beginRow();
            return true;
        }

        private void endIntersection() {
            if (intersectionOpen[level]) {
                program.add(BOTH, 0, 0);
            }
        }

        private void endUnion() {
            endIntersection();
            if (unionOpen[level]) {
                program.add(EITHER, 0, 0);
            }
        }

        private boolean readOpening() {
            if (level + 1 >= LEVEL_LIMIT) {
                return false;
            }
            at++;
            level++;
            beginLevel();
            return true;
        }

        private boolean readClosing() {
            if (level == 0 || nots[level] > 0) {
                return false;
            }
            at++;
            endUnion();
            level--;
            return true;
        }

        /** Behind an atom: its marks bind before the signs ~ in front of it. */
        private boolean endPiece() {
            for (int turn = 0; turn < length && at < length && isMark(source[at]); turn++) {
                if (!readMark()) {
                    return false;
                }
            }
            for (int k = 0; k < nots[level]; k++) {
                program.add(NOT, 0, 0);
            }
            nots[level] = 0;
            program.add(JOIN, 0, 0);
            return true;
        }

        private static boolean isMark(char c) {
            return c == '*' || c == '+' || c == '?' || c == '{';
        }

        private boolean readMark() {
            char mark = source[at];
            at++;
            if (mark == '{') {
                return readTimes();
            }
            program.add(REPEAT, mark == '+' ? 1 : 0, mark == '?' ? 1 : MANY);
            return true;
        }

        private boolean readTimes() {
            if (!isDigitFrom('0')) {
                return false;
            }
            char least = source[at];
            int low = least - '0';
            int high = low;
            at++;
            if (isNext(',')) {
                at++;
                high = MANY;
                if (isDigitFrom(least)) {
                    high = source[at] - '0';
                    at++;
                }
            }
            if (!isNext('}')) {
                return false;
            }
            at++;
            program.add(REPEAT, low, high);
            return true;
        }

        private boolean isNext(char c) {
            return at < length && source[at] == c;
        }

        private boolean isDigitFrom(char least) {
            return at < length && source[at] >= least && source[at] <= '9';
        }

        private boolean readClass() {
            at++;
            boolean negated = isNext('^');
            if (negated) {
                at++;
            }
            if (isNext(']') || !readItem()) {
                return false;
            }
            for (int turn = 0; turn < length && at < length && source[at] != ']'; turn++) {
                if (!readItem()) {
                    return false;
                }
                program.add(EITHER, 0, 0);
            }
            if (!isNext(']')) {
                return false;
            }
            at++;
            if (negated) {
                // Only texts of one character are left: not every text that fits no item.
                program.add(NOT, 0, 0);
                program.add(RANGE, FIRST_CHARACTER, LAST_CHARACTER);
                program.add(BOTH, 0, 0);
            }
            return true;
        }

        private boolean readItem() {
            if (at >= length) {
                return false;
            }
            char first = source[at];
            char last = first;
            at++;
            if (isNext('-') && at + 1 < length && source[at + 1] != ']') {
                at++;
                last = source[at];
                if (last < first) {
                    return false;
                }
                at++;
            }
            program.add(RANGE, first, last);
            return true;
        }
    }
}

/** What the tests share: comparing an answer with the one that is due, and calls that come together. */
final class Checks {
    /** Numbers that are no pattern, those among them of which some low bits alone would be one. */
    static final int[] NO_PATTERNS = {-1, -2, 2, 3, 256, 257, 65536, 65537, Integer.MAX_VALUE,
        Integer.MIN_VALUE, Integer.MIN_VALUE + 1};
    /** The characters that are no atoms by themselves. */
    static final String SIGNS = "|&~*+?{}()[]";

    private int wrong = 0;
    private String sentence = "";

    /** The document's sentence by which the answers to come are due. */
    void sentence(String words) {
        sentence = words;
    }

    void due(String call, long got, long want) {
        if (got != want) {
            tell(call + " answered " + got + ", due is " + want);
        }
    }

    void due(String call, boolean got, boolean want) {
        due(call, got ? 1 : 0, want ? 1 : 0);
    }

    void due(String call, String got, String want) {
        if (!got.equals(want)) {
            tell(call + " answered \"" + got + "\", due is \"" + want + "\"");
        }
    }

    private void tell(String fault) {
        wrong++;
        System.out.println(fault + (sentence.isEmpty() ? "" : ", by: " + sentence));
    }

    /** Each of these is a pattern. */
    void right(String... patterns) {
        for (String pattern : patterns) {
            due("pattern " + pattern, pattern(new DerivativeMatcher(), 0, pattern), 0);
        }
    }

    void wrongAt(int place, String... patterns) {
        for (String pattern : patterns) {
            due("pattern " + pattern, pattern(new DerivativeMatcher(), 0, pattern), -10 - place);
        }
    }

    void fits(String pattern, String... texts) {
        judge(pattern, texts, true);
    }

    void fitsNot(String pattern, String... texts) {
        judge(pattern, texts, false);
    }

    private void judge(String pattern, String[] texts, boolean want) {
        right(pattern);
        for (String text : texts) {
            DerivativeMatcher x = made("", pattern, text);
            due("\"" + text + "\" fits " + pattern, x.matches(1), want);
        }
    }

    /** Of the texts of 0 to 24 characters a those fit that have low to high characters. */
    void fitsLengths(String pattern, int low, int high) {
        for (int length = 0; length <= 24; length++) {
            judge(pattern, new String[] {"a".repeat(length)}, length >= low && length <= high);
        }
    }

    void end() {
        System.out.println(wrong == 0 ? "all answers are as due" : wrong + " answers are not as due");
        if (wrong != 0) {
            System.exit(1);
        }
    }

    int wrong() {
        return wrong;
    }

    /** A new object with these patterns 0 and 1, and this text. */
    static DerivativeMatcher made(String pattern, String other, String text) {
        DerivativeMatcher x = new DerivativeMatcher();
        pattern(x, 0, pattern);
        pattern(x, 1, other);
        text(x, text);
        return x;
    }

    static DerivativeMatcher typed(DerivativeMatcher x, String characters) {
        for (char c : characters.toCharArray()) {
            x.type(c);
        }
        return x;
    }

    static int pattern(DerivativeMatcher x, int p, String characters) {
        return typed(x, characters).pattern(p);
    }

    static int text(DerivativeMatcher x, String characters) {
        return typed(x, characters).text();
    }

    static String word(DerivativeMatcher x) {
        StringBuilder word = new StringBuilder();
        for (int i = 0; i < 10 && x.word(i) != DerivativeMatcher.BAD; i++) {
            word.append((char) x.word(i));
        }
        return word.toString();
    }

    /** What an object answers about its text, its patterns and its word, without a change of them. */
    static String answers(DerivativeMatcher x) {
        StringBuilder all = new StringBuilder(word(x));
        for (int p = 0; p <= 1; p++) {
            all.append(' ').append(x.matches(p));
            all.append(' ').append(x.count(p));
            all.append(' ').append(x.earliest(p));
            for (int from = 0; from <= 25; from++) {
                all.append(' ').append(x.find(p, from));
            }
        }
        return all.toString();
    }
}

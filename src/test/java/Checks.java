/** What the tests share: comparing an answer with the one that is due, and calls that come together. */
final class Checks {
    private int wrong = 0;

    void due(String call, long got, long want) {
        if (got != want) {
            wrong++;
            System.out.println(call + " answered " + got + ", due is " + want);
        }
    }

    void due(String call, boolean got, boolean want) {
        due(call, got ? 1 : 0, want ? 1 : 0);
    }

    void due(String call, String got, String want) {
        if (!got.equals(want)) {
            wrong++;
            System.out.println(call + " answered \"" + got + "\", due is \"" + want + "\"");
        }
    }

    void end() {
        System.out.println(wrong == 0 ? "all answers are as due" : wrong + " answers are not as due");
        if (wrong != 0) {
            System.exit(1);
        }
    }

    int wrong() {
        return wrong;
    }

    static DerivativeMatcher typed(DerivativeMatcher x, String characters) {
        for (char c : characters.toCharArray()) {
            x.type(c);
        }
        return x;
    }

    static int pattern(DerivativeMatcher x, int p, String characters) {
        return typed(x, characters).pattern(p);
    }

    static int text(DerivativeMatcher x, String characters) {
        return typed(x, characters).text();
    }

    static String word(DerivativeMatcher x) {
        StringBuilder word = new StringBuilder();
        for (int i = 0; i < 10 && x.word(i) != DerivativeMatcher.BAD; i++) {
            word.append((char) x.word(i));
        }
        return word.toString();
    }
}

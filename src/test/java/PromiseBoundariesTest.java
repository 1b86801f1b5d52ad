/**
 * The promises of the document, sentence by sentence: for each sentence that names a boundary (too small,
 * too large, empty, full, a refused call) a test of its own, with the cases on both sides of it.
 */
public final class PromiseBoundariesTest {
    private static final int BAD = DerivativeMatcher.BAD;
    private static final int NONE = DerivativeMatcher.NONE;
    private static final int[] NO_SIZES = {-1, -2, 5, 6, 256, 260, 65536, 65540, Integer.MAX_VALUE,
        Integer.MIN_VALUE, Integer.MIN_VALUE + 4};
    private static final Checks checks = new Checks();

    public static void main(String[] args) {
        newBuffer();
        newText();
        newPatterns();
        typeBehind();
        typeNoCharacter();
        typeFull();
        patternEmptiesBuffer();
        patternOfFullBuffer();
        patternBad();
        patternWrong();
        patternStays();
        patternBehindWrong();
        textEmptiesBuffer();
        textTooLong();
        matchesWhole();
        matchesBad();
        findFrom();
        findFirstLongest();
        findNumbers();
        findNone();
        findBad();
        countParts();
        countBehindEmpty();
        countEnds();
        countBad();
        earliestEnd();
        earliestNone();
        earliestBad();
        shortestSize();
        shortestAlphabet();
        shortestNone();
        shortestBad();
        shortestWordStays();
        differenceOfOne();
        differenceNone();
        differenceBad();
        wordCharacters();
        wordBad();
        wordAtFirst();
        nothingElseChanges();
        checks.end();
    }

    // Promise 1

    private static void newBuffer() {
        checks.sentence("An empty buffer");
        checks.due("its text", new DerivativeMatcher().text(), 0);
        checks.due("its pattern", new DerivativeMatcher().pattern(1), 0);
        DerivativeMatcher x = new DerivativeMatcher();
        Checks.pattern(x, 0, "a");
        Checks.text(x, "a");
        checks.due("nothing stands before what is typed", x.matches(0), true);
    }

    private static void newText() {
        checks.sentence("an empty text");
        DerivativeMatcher x = new DerivativeMatcher();
        checks.due("from 0", x.find(0, 0), 0);
        checks.due("from 1", x.find(0, 1), BAD);
        checks.due("count", x.count(0), 1);
        Checks.pattern(x, 0, ".");
        checks.due("it has no character", x.find(0, 0), NONE);
        Checks.pattern(x, 0, "~()");
        checks.due("nothing but the empty text", x.matches(0), false);
    }

    private static void newPatterns() {
        checks.sentence("empty patterns.");
        for (int p = 0; p <= 1; p++) {
            DerivativeMatcher x = new DerivativeMatcher();
            checks.due("the empty text fits " + p, x.matches(p), true);
            Checks.text(x, "ab");
            checks.due("no other fits " + p, x.matches(p), false);
            checks.due("empty parts fit " + p, x.count(p), 3);
            checks.due("the earliest of " + p, x.earliest(p), 0);
            checks.due("the shortest of " + p, x.shortest(p, 0), 0);
        }
        checks.due("they do not differ", new DerivativeMatcher().difference(4), NONE);
    }

    // Promise 2

    private static void typeBehind() {
        checks.sentence("A character comes behind the buffer.");
        DerivativeMatcher x = new DerivativeMatcher();
        String text = "abcdefghijklmnopqrstuvwx";
        for (char c : text.toCharArray()) {
            checks.due("type " + c, x.type(c), true);
        }
        checks.due("as a text", x.text(), 24);
        checks.due("as a pattern", Checks.pattern(x, 0, text), 0);
        checks.due("in their order", x.matches(0), true);
        for (int i = 0; i < 24; i++) {
            Checks.pattern(x, 1, text.substring(i, i + 1));
            checks.due("character " + i, x.find(1, 0), 100 * i + i + 1);
        }
        // The 40th is behind the 39 before.
        checks.wrongAt(39, "a".repeat(39) + ")");
    }

    private static void typeNoCharacter() {
        checks.sentence("False, changing nothing, when c is not 32 .. 126");
        DerivativeMatcher x = Checks.made("ab", "b", "ab");
        x.shortest(0, 4);
        String before = Checks.answers(x);
        Checks.typed(x, "b");
        int[] codes = {0, 1, 9, 10, 13, 30, 31, 127, 128, 160, 255, 256, 256 + 'a', 288, 32767, 32768 + 'a',
            65280 + 'a', 65534, 65535};
        for (int code : codes) {
            checks.due("type " + code, x.type((char) code), false);
        }
        checks.due("the rest stays", Checks.answers(x), before);
        Checks.typed(x, "a");
        checks.due("the buffer stays", x.text(), 2);
        Checks.pattern(x, 0, "ba");
        checks.due("with its characters", x.matches(0), true);
        checks.due("type 31", new DerivativeMatcher().type((char) 31), false);
        checks.due("type 32", new DerivativeMatcher().type((char) 32), true);
        checks.due("type 126", new DerivativeMatcher().type((char) 126), true);
        checks.due("type 127", new DerivativeMatcher().type((char) 127), false);
    }

    private static void typeFull() {
        checks.sentence("or it has 40.");
        DerivativeMatcher x = Checks.made("ab", "b", "ab");
        x.shortest(0, 4);
        String before = Checks.answers(x);
        Checks.typed(x, "|".repeat(38));
        checks.due("the 39th", x.type('|'), true);
        checks.due("the 40th", x.type('c'), true);
        for (int code : new int[] {')', 'c', ' ', 31, 127, 65535}) {
            checks.due("type " + code + " behind 40", x.type((char) code), false);
        }
        checks.due("the rest stays", Checks.answers(x), before);
        checks.due("the buffer stays", x.pattern(1), 0);
        Checks.text(x, "c");
        checks.due("with its last character", x.matches(1), true);
        checks.due("then it has place again", x.type('c'), true);
    }

    // Promise 3

    private static void patternEmptiesBuffer() {
        checks.sentence("Reads the buffer, which is empty then: pattern p is it.");
        for (int p = 0; p <= 1; p++) {
            DerivativeMatcher x = Checks.made("x", "x", "a");
            checks.due("pattern " + p, Checks.pattern(x, p, "a"), 0);
            checks.due("pattern " + p + " is it", x.matches(p), true);
            checks.due("the other is not", x.matches(1 - p), false);
            checks.due("the text stays", x.find(p, 1), NONE);
            checks.due("the buffer is empty", x.text(), 0);
            checks.due("of the empty buffer", x.pattern(p), 0);
            checks.due("the empty pattern", x.matches(p), true);
            Checks.typed(x, "(");
            checks.due("a wrong one", x.pattern(p), -11);
            checks.due("the buffer is empty behind that too", x.text(), 0);
        }
    }

    private static void patternOfFullBuffer() {
        checks.sentence("Reads the buffer: all its 40 characters");
        DerivativeMatcher x = new DerivativeMatcher();
        checks.due("40 characters", Checks.pattern(x, 0, "a?".repeat(19) + "bb"), 0);
        Checks.text(x, "bb");
        checks.due("the last one is read", x.matches(0), true);
        Checks.text(x, "b");
        checks.due("and asked for", x.matches(0), false);
        Checks.text(x, "a".repeat(19) + "bb");
        checks.due("and the first one", x.matches(0), true);
        Checks.text(x, "a".repeat(20) + "bb");
        checks.due("and none more", x.matches(0), false);
        for (int i = 0; i < 40; i++) {
            DerivativeMatcher y = new DerivativeMatcher();
            Checks.pattern(y, 1, "|".repeat(i) + "c" + "|".repeat(39 - i));
            Checks.text(y, "c");
            checks.due("character " + i + " of 40", y.matches(1), true);
        }
    }

    private static void patternBad() {
        checks.sentence("BAD, and the buffer stays, when p is not 0 or 1");
        String[] buffers = {"", "b", ")", "a".repeat(24), "a".repeat(39) + "(", "|".repeat(39) + "b"};
        int[] due = {0, 0, -10, 0, -50, 0};
        for (int k = 0; k < buffers.length; k++) {
            DerivativeMatcher x = Checks.made("ab", "b", "ab");
            x.shortest(0, 4);
            String before = Checks.answers(x);
            Checks.typed(x, buffers[k]);
            for (int p : Checks.NO_PATTERNS) {
                checks.due("pattern " + p, x.pattern(p), BAD);
            }
            checks.due("the rest stays", Checks.answers(x), before);
            checks.due("the buffer " + buffers[k] + " stays", x.pattern(0), due[k]);
        }
    }

    private static void patternWrong() {
        checks.sentence("-10 - the place where it is wrong");
        for (int place = 0; place < 40; place++) {
            checks.wrongAt(place, "a".repeat(place) + ")", "a".repeat(place) + ")" + "b".repeat(39 - place));
            checks.wrongAt(place + 1, "a".repeat(place) + "(");
        }
        DerivativeMatcher x = new DerivativeMatcher();
        checks.due("the first place", Checks.pattern(x, 1, "*"), -10);
        checks.due("the end of 40", Checks.pattern(x, 1, "(".repeat(40)), -50);
    }

    private static void patternStays() {
        checks.sentence("and the pattern stays.");
        String[] wrong = {")", "b)", "b|a)", "b(", "~", "b|~", "[", "[b", "b{", "b{3,2}", "(".repeat(40)};
        for (String buffer : wrong) {
            for (int p = 0; p <= 1; p++) {
                // Once with what it has answered already, once before it was asked.
                DerivativeMatcher x = Checks.made("a+", "a|c", "aab");
                x.shortest(1 - p, 4);
                String before = Checks.answers(x);
                checks.due("wrong " + buffer, Checks.pattern(x, p, buffer) <= -10, true);
                checks.due("the pattern before " + buffer, Checks.answers(x), before);
                DerivativeMatcher y = Checks.made("a+", "a|c", "aab");
                Checks.pattern(y, p, buffer);
                y.shortest(1 - p, 4);
                checks.due("the pattern, not asked before " + buffer, Checks.answers(y), before);
                checks.due("the difference after " + buffer, y.difference(4), 1);
                checks.due("its word after " + buffer, Checks.word(y), "c");
            }
        }
        DerivativeMatcher z = new DerivativeMatcher();
        Checks.pattern(z, 0, "a)");
        checks.due("the first pattern stays empty", z.matches(0), true);
    }

    private static void patternBehindWrong() {
        checks.sentence("Reads the buffer: nothing of a wrong one before it is left");
        String[] wrong = {"*", "a*(", "(".repeat(40), "~", "~".repeat(40), "(~", "((~~", "a|b&(a|b&~", "[", "[^a",
            "a{2", "a{2,", "|(|(&("};
        for (String before : wrong) {
            DerivativeMatcher x = new DerivativeMatcher();
            Checks.text(x, "a");
            Checks.pattern(x, 0, before);
            checks.due("a right one behind " + before, Checks.pattern(x, 0, "a((a))|((a))"), 0);
            checks.due("a fits it behind " + before, x.matches(0), true);
            Checks.text(x, "b");
            checks.due("b does not behind " + before, x.matches(0), false);
            Checks.text(x, "");
            checks.due("nor the empty text behind " + before, x.matches(0), false);
            Checks.pattern(x, 0, before);
            checks.due("the empty one behind " + before, x.pattern(0), 0);
            checks.due("which fits behind " + before, x.matches(0), true);
        }
    }

    // Promise 4

    private static void textEmptiesBuffer() {
        checks.sentence("The buffer, which is empty then, becomes the text: how many characters it has.");
        for (int size = 0; size <= 24; size++) {
            DerivativeMatcher x = Checks.made("b*", "a*", "b".repeat(24 - size));
            checks.due("text of " + size, Checks.text(x, "a".repeat(size)), size);
            checks.due("its length is " + size, x.find(1, size), 100 * size + size);
            checks.due("no place behind " + size, x.find(1, size + 1), BAD);
            checks.due("all of it is new", x.matches(1), true);
            checks.due("the buffer is empty behind " + size, x.pattern(0), 0);
            checks.due("that pattern is empty", x.matches(0), size == 0);
            checks.due("the empty buffer as a text", x.text(), 0);
            checks.due("that text is empty", x.matches(0), true);
        }
    }

    private static void textTooLong() {
        checks.sentence("BAD, changing nothing, when it has more than 24.");
        for (int size = 25; size <= 40; size++) {
            DerivativeMatcher x = Checks.made("ab", "b", "ab");
            x.shortest(0, 4);
            String before = Checks.answers(x);
            checks.due("text of " + size, Checks.text(x, "|".repeat(size - 1) + "c"), BAD);
            checks.due("text of " + size + " again", x.text(), BAD);
            checks.due("the rest stays", Checks.answers(x), before);
            for (int more = size; more < 40; more++) {
                checks.due("type behind " + more, x.type(more < 39 ? '|' : '('), true);
            }
            checks.due("type behind 40", x.type('|'), false);
            checks.due("the buffer stays", x.pattern(1), size < 40 ? -50 : 0);
        }
        DerivativeMatcher y = new DerivativeMatcher();
        Checks.text(y, "|".repeat(24) + "c");
        checks.due("it can be read as a pattern still", y.pattern(0), 0);
        checks.due("a text of 24 behind that", Checks.text(y, "c".repeat(24)), 24);
        checks.due("and that pattern", y.find(0, 0), 1);
    }

    // Promise 5

    private static void matchesWhole() {
        checks.sentence("Whether the whole text fits pattern p");
        for (int size = 0; size <= 24; size++) {
            DerivativeMatcher x = Checks.made("a".repeat(size), "~(" + "a".repeat(size) + ")", "a".repeat(size));
            checks.due("a text of " + size, x.matches(0), true);
            checks.due("and its complement", x.matches(1), false);
            Checks.text(x, "a".repeat(size == 24 ? 23 : size + 1));
            checks.due("one that is not " + size, x.matches(0), false);
            checks.due("and the complement", x.matches(1), true);
        }
        checks.fitsNot("a", "ab", "ba", "");
        checks.fitsNot("a{9}{2}a{5}", "a".repeat(24));
        checks.fits("a{9}{2}a{6}", "a".repeat(24));
    }

    private static void matchesBad() {
        checks.sentence("false too when p is not 0 or 1.");
        DerivativeMatcher x = Checks.made(".*", ".*", "a");
        checks.due("pattern 0 fits", x.matches(0), true);
        checks.due("pattern 1 fits", x.matches(1), true);
        for (int p : Checks.NO_PATTERNS) {
            checks.due("matches " + p, x.matches(p), false);
            checks.due("matches " + p + " at first", new DerivativeMatcher().matches(p), false);
        }
    }

    // Promise 6

    private static void findFrom() {
        checks.sentence("Of the parts of the text that fit pattern p and begin at from or behind it");
        DerivativeMatcher x = Checks.made("a", "", "aba");
        checks.due("one at 0", x.find(0, 0), 1);
        checks.due("one behind 1, not the one before", x.find(0, 1), 203);
        checks.due("one at 2", x.find(0, 2), 203);
        checks.due("none from the end on", x.find(0, 3), NONE);
        checks.due("the empty part at the end", x.find(1, 3), 303);
        DerivativeMatcher y = Checks.made("abc", "c", "abc");
        checks.due("a part may not begin before", y.find(0, 1), NONE);
        checks.due("though its end is behind", y.find(1, 1), 203);
        DerivativeMatcher z = Checks.made("", "a", "");
        checks.due("the empty text", z.find(0, 0), 0);
        checks.due("the empty text has no a", z.find(1, 0), NONE);
    }

    private static void findFirstLongest() {
        checks.sentence("the one that begins first, of those the longest one");
        DerivativeMatcher x = Checks.made("a|bcd", "a|ab|abc", "xabcd");
        checks.due("the first, though it is shorter", x.find(0, 0), 102);
        checks.due("the longest, of three", x.find(1, 0), 104);
        DerivativeMatcher y = Checks.made("|.{9}.{9}.{6}", ".*", "b".repeat(24));
        checks.due("the whole text, not the empty part", y.find(0, 0), 24);
        checks.due("the empty part before a longer one", y.find(0, 1), 101);
        checks.due("the longest to the end", y.find(1, 23), 2324);
        DerivativeMatcher z = Checks.made("~b", "b|bb|bbbb", "bbbbb");
        checks.due("the longest of a complement", z.find(0, 0), 5);
        checks.due("the longest with a gap", z.find(1, 0), 4);
        checks.due("where it would be too long", z.find(1, 2), 204);
    }

    private static void findNumbers() {
        checks.sentence("as 100 * its beginning + its end.");
        for (int begin = 0; begin <= 24; begin++) {
            String text = "b".repeat(begin) + "a".repeat(24 - begin);
            DerivativeMatcher x = Checks.made("a+", "a*", text);
            checks.due("a part from " + begin + " to 24", x.find(0, 0), begin == 24 ? NONE : 100 * begin + 24);
            checks.due("from there on", x.find(1, begin), 100 * begin + 24);
        }
        checks.due("the least answer", Checks.made("", "", "").find(0, 0), 0);
        checks.due("the greatest answer", Checks.made("", "", "a".repeat(24)).find(0, 24), 2424);
    }

    private static void findNone() {
        checks.sentence("NONE when there is none");
        DerivativeMatcher x = Checks.made("b", "a&b", "a".repeat(24));
        for (int from = 0; from <= 24; from++) {
            checks.due("no b from " + from, x.find(0, from), NONE);
            checks.due("nothing fits from " + from, x.find(1, from), NONE);
        }
        checks.due("none in the empty text", Checks.made("b", "", "").find(0, 0), NONE);
        checks.due("longer than the text", Checks.made("a{9}{2}a{7}", "", "a".repeat(24)).find(0, 0), NONE);
    }

    private static void findBad() {
        checks.sentence("BAD when p is not 0 or 1, or from not 0 .. the length.");
        for (int length = 0; length <= 24; length++) {
            DerivativeMatcher x = Checks.made("", "b", "a".repeat(length));
            int[] noPlaces = {-1, -2, length + 1, length + 2, 256, 65536, Integer.MAX_VALUE, Integer.MIN_VALUE};
            for (int from : noPlaces) {
                checks.due("find from " + from + " of " + length, x.find(0, from), BAD);
                checks.due("find of none from " + from, x.find(1, from), BAD);
            }
            checks.due("find from 0", x.find(0, 0), 0);
            checks.due("find from the length", x.find(0, length), 101 * length);
            checks.due("find of none from the length", x.find(1, length), NONE);
        }
        DerivativeMatcher y = Checks.made("", "", "ab");
        for (int p : Checks.NO_PATTERNS) {
            checks.due("find of pattern " + p, y.find(p, 0), BAD);
            checks.due("find of pattern " + p + " from -1", y.find(p, -1), BAD);
            checks.due("find of pattern " + p + " from 3", y.find(p, 3), BAD);
        }
    }

    // Promise 7

    private static void counted(String pattern, String text, int want) {
        checks.due("count of " + pattern + " in " + text, Checks.made(pattern, "", text).count(0), want);
        checks.due("count of it as pattern 1", Checks.made("", pattern, text).count(1), want);
    }

    private static void countParts() {
        checks.sentence("How many parts one finds with find() from 0 on, each time from the end of the one before on");
        counted("a", "a", 1);
        counted("a", "aa", 2);
        counted("aa", "aaa", 1);
        counted("aa", "aaaa", 2);
        counted("aba", "abababa", 2);
        counted("a+", "aabaab", 2);
        counted("a|b", "ab", 2);
        counted("a", "a".repeat(24), 24);
        counted("aa", "a".repeat(24), 12);
        counted("a{5}", "a".repeat(24), 4);
        counted("a{9}{2}a{6}", "a".repeat(24), 1);
        counted("b", "abab", 2);
    }

    private static void countBehindEmpty() {
        checks.sentence("if that is empty, from one character behind it on");
        counted("", "a", 2);
        counted("", "ab", 3);
        counted("", "a".repeat(24), 25);
        counted("b*", "a", 2);
        counted("b*", "ab", 3);
        counted("a*", "ab", 3);
        counted("(aa)?", "baab", 4);
        // Behind the empty part at 0 one goes on from 1, so what begins at 1 is found.
        counted("|ab", "xab", 3);
        counted("b*", "ab".repeat(12), 25);
    }

    private static void countEnds() {
        checks.sentence("until there is none or that is behind the text.");
        counted("b", "", 0);
        counted("b", "a".repeat(24), 0);
        counted("b", "baaa", 1);
        counted("a&b", "ab", 0);
        // A part that goes to the end is not the last one where an empty one fits there.
        counted(".*", "a", 2);
        counted(".*", "a".repeat(24), 2);
        counted(".+", "a".repeat(24), 1);
        counted("a*", "ba", 3);
        counted("", "", 1);
        counted(".*", "", 1);
        counted("~(a*)", "aab", 1);
    }

    private static void countBad() {
        checks.sentence("count: BAD when p is not 0 or 1.");
        for (int p : Checks.NO_PATTERNS) {
            checks.due("count of pattern " + p, new DerivativeMatcher().count(p), BAD);
            checks.due("count of pattern " + p + ", none", Checks.made("b", "b", "a").count(p), BAD);
        }
    }

    // Promise 8

    private static void ends(String pattern, String text, int want) {
        checks.due("earliest of " + pattern + " in " + text, Checks.made(pattern, "", text).earliest(0), want);
        checks.due("earliest of it as pattern 1", Checks.made("", pattern, text).earliest(1), want);
    }

    private static void earliestEnd() {
        checks.sentence("The least place at which some part that fits pattern p ends.");
        ends("", "", 0);
        ends("", "ab", 0);
        ends("b*", "ab", 0);
        ends("a", "a", 1);
        ends("a+", "aaa", 1);
        ends("a|aa", "aaa", 1);
        ends("abc|b", "abc", 2);
        ends("abcd|c|bcd", "abcd", 3);
        for (int place = 1; place <= 24; place++) {
            ends("b", "a".repeat(place - 1) + "b" + "a".repeat(24 - place), place);
            ends(".".repeat(place), "a".repeat(24), place);
        }
    }

    private static void earliestNone() {
        checks.sentence("earliest: NONE");
        ends("a", "", NONE);
        ends("b", "a".repeat(24), NONE);
        ends("a&b", "ab", NONE);
        ends(".".repeat(25), "a".repeat(24), NONE);
        ends("~(.*)", "a", NONE);
    }

    private static void earliestBad() {
        checks.sentence("earliest: BAD when p is not 0 or 1.");
        for (int p : Checks.NO_PATTERNS) {
            checks.due("earliest of pattern " + p, new DerivativeMatcher().earliest(p), BAD);
            checks.due("earliest of pattern " + p + ", none", Checks.made("b", "b", "a").earliest(p), BAD);
        }
    }

    // Promise 9

    /** The word that shortest makes, as pattern 0 and as pattern 1. */
    private static void shortestIs(String pattern, int n, String want) {
        for (int p = 0; p <= 1; p++) {
            DerivativeMatcher x = Checks.made(p == 0 ? pattern : "", p == 1 ? pattern : "", "");
            checks.due("shortest of " + pattern + " up to " + n, x.shortest(p, n), want.length());
            checks.due("the word of " + pattern, Checks.word(x), want);
        }
    }

    private static void shortestSize() {
        checks.sentence("The shortest text of at most n characters a, b and c that fits pattern p becomes the WORD: "
                + "its length.");
        for (int size = 0; size <= 4; size++) {
            for (int n = size; n <= 4; n++) {
                shortestIs("c".repeat(size), n, "c".repeat(size));
                shortestIs("c{" + size + ",}", n, "c".repeat(size));
                shortestIs("b{" + size + "}|a{" + (size + 1) + "}", n, "b".repeat(size));
            }
        }
        shortestIs("", 0, "");
        shortestIs(".*", 0, "");
        shortestIs("~()", 1, "a");
    }

    private static void shortestAlphabet() {
        checks.sentence("of equally long ones the first by the alphabet");
        shortestIs("[abc]", 4, "a");
        shortestIs("[bc]", 4, "b");
        shortestIs("c|b|d", 4, "b");
        shortestIs("ca|bc|cb", 4, "bc");
        shortestIs("bca|bcb|cab", 4, "bca");
        shortestIs("....", 4, "aaaa");
        shortestIs("ccc[bc]", 4, "cccb");
        shortestIs("cccc|dddd", 4, "cccc");
        shortestIs("c|aa", 4, "c");
    }

    private static void shortestNone() {
        checks.sentence("shortest: NONE when there is none");
        for (int size = 1; size <= 4; size++) {
            for (int n = 0; n < size; n++) {
                checks.due(size + " are more than " + n, Checks.made("a".repeat(size), "", "").shortest(0, n), NONE);
            }
        }
        for (int n = 0; n <= 4; n++) {
            checks.due("five up to " + n, Checks.made("a{5}", "", "").shortest(0, n), NONE);
            checks.due("no a, b, c up to " + n, Checks.made("[^abc]+", "", "").shortest(0, n), NONE);
            checks.due("nothing fits, up to " + n, Checks.made("a&b", "", "").shortest(0, n), NONE);
            checks.due("other letters up to " + n, Checks.made("[`dA ]", "", "").shortest(0, n), NONE);
        }
    }

    private static void shortestBad() {
        checks.sentence("BAD when p is not 0 or 1, or n not 0 .. 4.");
        for (int n : NO_SIZES) {
            checks.due("shortest up to " + n, Checks.made("a*", "b", "").shortest(0, n), BAD);
            checks.due("shortest of none up to " + n, Checks.made("", "d", "").shortest(1, n), BAD);
        }
        for (int p : Checks.NO_PATTERNS) {
            checks.due("shortest of pattern " + p, Checks.made("a", "a", "").shortest(p, 4), BAD);
            checks.due("shortest of pattern " + p + " up to 0", new DerivativeMatcher().shortest(p, 0), BAD);
            checks.due("shortest of pattern " + p + " up to 5", new DerivativeMatcher().shortest(p, 5), BAD);
        }
        checks.due("up to 0", new DerivativeMatcher().shortest(0, 0), 0);
        checks.due("up to 4", new DerivativeMatcher().shortest(1, 4), 0);
    }

    private static void shortestWordStays() {
        checks.sentence("In both cases the word stays.");
        for (String word : new String[] {"", "c", "cb", "cba", "cbac"}) {
            DerivativeMatcher x = Checks.made(word, "d|aaaaa", "");
            x.shortest(0, 4);
            for (int n = 0; n <= 4; n++) {
                checks.due("none up to " + n, x.shortest(1, n), NONE);
            }
            checks.due("the word behind NONE", Checks.word(x), word);
            for (int n : NO_SIZES) {
                checks.due("bad up to " + n, x.shortest(1, n), BAD);
            }
            for (int p : Checks.NO_PATTERNS) {
                checks.due("bad of pattern " + p, x.shortest(p, 4), BAD);
            }
            checks.due("the word behind BAD", Checks.word(x), word);
        }
    }

    // Promise 10

    private static void differ(String pattern, String other, int n, String want) {
        for (int turned = 0; turned <= 1; turned++) {
            DerivativeMatcher x = turned == 0 ? Checks.made(pattern, other, "") : Checks.made(other, pattern, "");
            checks.due("difference of " + pattern + " and " + other, x.difference(n), want.length());
            checks.due("where " + pattern + " and " + other + " differ", Checks.word(x), want);
        }
    }

    private static void differenceOfOne() {
        checks.sentence("Likewise, the one that fits just one of the two patterns.");
        for (int size = 0; size <= 4; size++) {
            for (int n = size; n <= 4; n++) {
                differ("c".repeat(size), "d", n, "c".repeat(size));
                differ(".*", "~(c{" + size + "})", n, "c".repeat(size));
            }
        }
        differ("a", "b", 4, "a");
        differ("b|c", "b", 4, "c");
        differ("a*", "a{0,3}", 4, "aaaa");
        differ("a*|cb|ca", "a*", 4, "ca");
        differ("[abd]", "[ab]|cc|cb", 4, "cb");
    }

    private static void differenceNone() {
        checks.sentence("difference: NONE, and the word stays");
        for (int n = 0; n <= 4; n++) {
            DerivativeMatcher x = Checks.made("cb", "a{" + (n + 1) + "}", "");
            x.shortest(0, 4);
            Checks.pattern(x, 0, "b{" + (n + 1) + "}");
            checks.due("longer than " + n, x.difference(n), NONE);
            checks.due("the word behind NONE", Checks.word(x), "cb");
            Checks.pattern(x, 0, "a{" + (n + 1) + "}|d");
            checks.due("only others than a, b, c, up to " + n, x.difference(n), NONE);
            Checks.pattern(x, 0, "a{" + (n + 1) + "}");
            checks.due("the same, up to " + n, x.difference(n), NONE);
            checks.due("the word stays still", Checks.word(x), "cb");
        }
        checks.due("five", Checks.made("a{5}", "b{5}", "").difference(4), NONE);
        checks.due("at first", new DerivativeMatcher().difference(0), NONE);
    }

    private static void differenceBad() {
        checks.sentence("difference: BAD when n is not 0 .. 4, and the word stays");
        for (String word : new String[] {"", "c", "cbac"}) {
            DerivativeMatcher x = Checks.made(word, "ab", "");
            x.shortest(0, 4);
            for (int n : NO_SIZES) {
                checks.due("difference up to " + n, x.difference(n), BAD);
                checks.due("at first up to " + n, new DerivativeMatcher().difference(n), BAD);
            }
            checks.due("the word behind BAD", Checks.word(x), word);
        }
        checks.due("up to 0", Checks.made("a", "", "").difference(0), 0);
        checks.due("up to 4", Checks.made("a", "", "").difference(4), 0);
    }

    // Promise 11

    private static void wordCharacters() {
        checks.sentence("Character i of the word");
        DerivativeMatcher x = Checks.made("cbac", "b", "");
        x.shortest(0, 4);
        String word = "cbac";
        for (int i = 0; i < 4; i++) {
            checks.due("character " + i, x.word(i), word.charAt(i));
        }
        x.shortest(1, 4);
        checks.due("of a shorter word", x.word(0), 'b');
        checks.due("behind the shorter word", x.word(1), BAD);
        Checks.pattern(x, 1, "");
        x.shortest(1, 4);
        checks.due("of the empty word", x.word(0), BAD);
    }

    private static void wordBad() {
        checks.sentence("BAD when there is none");
        for (String word : new String[] {"", "c", "cb", "cba", "cbac"}) {
            DerivativeMatcher x = Checks.made(word, "cbac", "");
            x.shortest(1, 4);
            x.shortest(0, 4);
            int[] noPlaces = {-1, -2, word.length(), word.length() + 1, 4, 5, 40, 256, 65536, Integer.MAX_VALUE,
                Integer.MIN_VALUE};
            for (int i : noPlaces) {
                checks.due("character " + i + " of " + word, x.word(i), BAD);
            }
            checks.due("the word is", Checks.word(x), word);
        }
    }

    private static void wordAtFirst() {
        checks.sentence("at first the word is empty");
        DerivativeMatcher x = new DerivativeMatcher();
        for (int i = -1; i <= 5; i++) {
            checks.due("character " + i + " at first", x.word(i), BAD);
        }
        checks.due("none is found", Checks.pattern(x, 0, "d"), 0);
        checks.due("so", x.shortest(0, 4), NONE);
        checks.due("it stays empty", x.word(0), BAD);
    }

    // Not promised

    /** What is not said to change stays: a call that answers, or is refused, hides no other one. */
    private static void nothingElseChanges() {
        checks.sentence("Nothing is promised beyond the answers and state changes described above");
        DerivativeMatcher x = Checks.made("a+", "ab|b", "aabab");
        x.difference(4);
        Checks.typed(x, "(c");
        String before = Checks.answers(x);
        checks.due("the same answers again", Checks.answers(x), before);
        checks.due("shortest makes the same word", x.shortest(0, 4), 1);
        checks.due("shortest changes no more", Checks.answers(x), before);
        checks.due("difference makes the same word", x.difference(4), 1);
        checks.due("difference changes no more", Checks.answers(x), before);
        checks.due("the buffer stayed", x.pattern(0), -12);
        checks.due("pattern leaves the word", Checks.word(x), "a");
        Checks.text(x, "bb");
        checks.due("text leaves the word", Checks.word(x), "a");
        checks.due("text leaves pattern 0", x.shortest(0, 4), 1);
        checks.due("text leaves pattern 1", x.count(1), 2);
        Checks.pattern(x, 0, "bb");
        checks.due("pattern leaves the text", x.matches(0), true);
        checks.due("pattern leaves the other one", x.count(1), 2);
    }
}

import java.lang.reflect.Constructor;
import java.lang.reflect.Field;
import java.lang.reflect.Method;
import java.lang.reflect.Modifier;
import java.util.Arrays;
import java.util.TreeSet;

/** For each promise ordinary inputs, the edges that the document names, and wrong inputs. */
public final class PromisesTest {
    private static final int BAD = DerivativeMatcher.BAD;
    private static final int NONE = DerivativeMatcher.NONE;
    private static final int[] NO_PATTERNS = Checks.NO_PATTERNS;
    private static final Checks checks = new Checks();

    public static void main(String[] args) {
        face();
        newObject();
        type();
        patternAnswers();
        wrongThenRight();
        wrongPlaces();
        rightPatterns();
        whatFits();
        classes();
        loops();
        text();
        matches();
        find();
        count();
        earliest();
        shortest();
        difference();
        word();
        deepestStack();
        exampleOfReadme();
        dearestCalls();
        checks.end();
    }

    private static void face() {
        checks.due("BAD", BAD, -1);
        checks.due("NONE", NONE, -2);
        TreeSet<String> seen = new TreeSet<>();
        for (Field f : DerivativeMatcher.class.getDeclaredFields()) {
            if (!Modifier.isPrivate(f.getModifiers())) {
                seen.add(f.getName());
            }
        }
        for (Method m : DerivativeMatcher.class.getDeclaredMethods()) {
            if (!Modifier.isPrivate(m.getModifiers())) {
                seen.add(m.getReturnType() + " " + m.getName() + Arrays.toString(m.getParameterTypes()));
            }
        }
        for (Constructor<?> c : DerivativeMatcher.class.getDeclaredConstructors()) {
            seen.add("new" + Arrays.toString(c.getParameterTypes()));
        }
        checks.due("the face", seen.toString(), "[BAD, NONE, boolean matches[int], boolean type[char], "
                + "int count[int], int difference[int], int earliest[int], int find[int, int], "
                + "int pattern[int], int shortest[int, int], int text[], int word[int], new[]]");
    }

    private static void newObject() {
        DerivativeMatcher x = new DerivativeMatcher();
        for (int p = 0; p <= 1; p++) {
            checks.due("new: matches", x.matches(p), true);
            checks.due("new: find", x.find(p, 0), 0);
            checks.due("new: find behind the text", x.find(p, 1), BAD);
            checks.due("new: count", x.count(p), 1);
            checks.due("new: earliest", x.earliest(p), 0);
        }
        checks.due("new: difference", x.difference(4), NONE);
        checks.due("new: word", x.word(0), BAD);
        checks.due("new: text of the empty buffer", x.text(), 0);
        Checks.text(x, "a");
        checks.due("new: the empty pattern and a", x.matches(0), false);
        checks.due("new: the other empty pattern and a", x.matches(1), false);
        checks.due("new: shortest", x.shortest(1, 4), 0);
    }

    private static void type() {
        DerivativeMatcher x = new DerivativeMatcher();
        for (int c : new int[] {0, 9, 10, 31, 127, 128, 255, 256 + 'a', 65535}) {
            checks.due("type " + c, x.type((char) c), false);
        }
        checks.due("nothing was typed", x.text(), 0);
        for (int c = 32; c <= 126; c++) {
            checks.due("type " + c, new DerivativeMatcher().type((char) c), true);
        }
        for (int i = 0; i < 40; i++) {
            checks.due("type at " + i, x.type(i < 39 ? 'a' : 'b'), true);
        }
        checks.due("type into the full buffer", x.type('*'), false);
        checks.due("pattern of 40 characters", x.pattern(0), 0);
        checks.due("type into the empty buffer", x.type('c'), true);
        checks.due("text of one character", x.text(), 1);
        Checks.pattern(x, 0, "c");
        checks.due("the character that was typed", x.matches(0), true);
        // 39 a, then [ : that the 41st character was not taken is seen by the place.
        Checks.typed(x, "a".repeat(39) + "[");
        checks.due("type a 41st", x.type(']'), false);
        checks.due("place behind 40 characters", x.pattern(0), -50);
    }

    private static void patternAnswers() {
        DerivativeMatcher x = new DerivativeMatcher();
        Checks.typed(x, "ab");
        for (int p : NO_PATTERNS) {
            checks.due("pattern " + p, x.pattern(p), BAD);
        }
        checks.due("the buffer stayed", x.pattern(1), 0);
        checks.due("the buffer is empty then", x.text(), 0);
        Checks.text(x, "ab");
        checks.due("pattern 1 is it", x.matches(1), true);
        checks.due("pattern 0 is not", x.matches(0), false);
        checks.due("a wrong pattern", Checks.pattern(x, 1, "c)"), -11);
        checks.due("the pattern stayed", x.matches(1), true);
        checks.due("the buffer is empty after a wrong one too", x.text(), 0);
        Checks.text(x, "ab");
        Checks.typed(x, "(");
        checks.due("a wrong pattern for no pattern", x.pattern(2), BAD);
        checks.due("and the buffer stayed", x.pattern(0), -11);
        checks.due("read again it is empty", x.pattern(1), 0);
        checks.due("and so is the pattern", x.matches(1), false);
        checks.due("an old program does not come back", Checks.pattern(x, 1, "a|ab"), 0);
        checks.due("the new one is used", x.matches(1), true);
        checks.due("shortest of it", x.shortest(1, 4), 1);
        checks.due("then another", Checks.pattern(x, 1, "bb"), 0);
        checks.due("shortest of that", x.shortest(1, 4), 2);
        checks.due("the words of a wrong one", Checks.pattern(x, 1, "*"), -10);
        checks.due("shortest stays", x.shortest(1, 4), 2);
    }

    /** A wrong pattern leaves nothing behind that the next reading could meet. */
    private static void wrongThenRight() {
        String[] wrong = {"~", "(~", "((~", "a|b&(a|b&~", "(((", "|(|(&(", "[^a", "a{2", "~~(~~["};
        for (String before : wrong) {
            DerivativeMatcher x = new DerivativeMatcher();
            checks.due("pattern " + before, Checks.pattern(x, 0, before), -10 - before.length());
            checks.due("a pattern behind " + before, Checks.pattern(x, 0, "((a))"), 0);
            Checks.text(x, "a");
            checks.due("a behind " + before, x.matches(0), true);
            Checks.text(x, "b");
            checks.due("b behind " + before, x.matches(0), false);
            Checks.text(x, "");
            checks.due("the empty text behind " + before, x.matches(0), false);
        }
    }

    private static void wrongPlaces() {
        String[] wrongAtStart = {"*", "+", "?", "{1}", "}", "]", ")", "*a", ")a", "]a", "}a"};
        for (String pattern : wrongAtStart) {
            checks.wrongAt(0, pattern);
            checks.wrongAt(2, "a|" + pattern);
            checks.wrongAt(2, "a&" + pattern);
        }
        checks.wrongAt(1, "(*)");
        checks.wrongAt(3, "(()");
        checks.wrongAt(2, "())");
        checks.wrongAt(1, "a)b(");
        checks.wrongAt(40, "(".repeat(40));
        checks.right("(".repeat(20) + ")".repeat(20));
        checks.wrongAt(38, "(".repeat(19) + ")".repeat(20));
        checks.wrongAt(1, "~");
        checks.wrongAt(40, "~".repeat(40));
        checks.right("~".repeat(39) + "a");
        checks.wrongAt(1, "~*");
        checks.wrongAt(1, "~|a");
        checks.wrongAt(1, "~&a");
        checks.wrongAt(2, "(~)");
        checks.wrongAt(5, "(~a|~)");
        checks.wrongAt(1, "~]");
        checks.wrongAt(2, "~(");
        checks.wrongAt(1, "a}");
        checks.wrongAt(1, "a]");
        checks.wrongAt(2, "a{");
        checks.wrongAt(2, "a{}");
        checks.wrongAt(2, "a{,}");
        checks.wrongAt(2, "a{,3}");
        checks.wrongAt(2, "a{a}");
        checks.wrongAt(3, "a{1");
        checks.wrongAt(3, "a{12}");
        checks.wrongAt(3, "a{1a}");
        checks.wrongAt(4, "a{1,");
        checks.wrongAt(4, "a{1,,}");
        checks.wrongAt(4, "a{1,a}");
        checks.wrongAt(4, "a{3,2}");
        checks.wrongAt(4, "a{9,8");
        checks.wrongAt(5, "a{1,2");
        checks.wrongAt(5, "a{1,23}");
        checks.wrongAt(5, "a{1,2,");
        checks.wrongAt(2, "a{ 1}");
        checks.wrongAt(5, "a{2}{");
        checks.wrongAt(13, "a**{1}+?{2,}|*");
        checks.wrongAt(1, "[");
        checks.wrongAt(1, "[]");
        checks.wrongAt(1, "[]a]");
        checks.wrongAt(2, "[^");
        checks.wrongAt(2, "[^]");
        checks.wrongAt(2, "[^]a]");
        checks.wrongAt(2, "[a");
        checks.wrongAt(3, "[a-");
        checks.wrongAt(4, "[a-z");
        checks.wrongAt(3, "[b-a]");
        checks.wrongAt(4, "[^b-a]");
        checks.wrongAt(3, "[a--]");
        checks.wrongAt(4, "[ab-aa]");
        checks.wrongAt(6, "[a-cb-a]");
        checks.right("[^^-]");
        checks.wrongAt(5, "[^^-]]");
        checks.wrongAt(3, "[~-");
        checks.wrongAt(3, "[~- ]");
        checks.wrongAt(6, "(a|[b)");
        checks.wrongAt(3, "|&|*");
    }

    private static void rightPatterns() {
        String[] right = {"", "()", "(())", "|", "&", "|&|", "(|&)", "~()", "~~a", "a*", "a**", "a+?*",
            "a{0}", "a{9}", "a{0,}", "a{0,0}", "a{9,9}", "a{2,3}{4}{5,}", "()*", "(|)*+?{3}", "~(a)*", ".*",
            ".", "^", "-", ",", "1", "a,b", " ", "a b", "^a", "[a]", "[^a]", "[a-z]", "[-]", "[--]", "[---]",
            "[a-a]", "[^^]", "[^-]", "[a^]", "[[]", "[(]", "[|&~*+?{}()[]", "[a-]", "[-a]", "[a-c-e]",
            "[ -~]", "[.]", "\"\\#$%'/:;<=>@_`", "~[a]", "~.", "~[^a]*", "[a]{2}", ".{2,}"};
        checks.right(right);
    }

    private static void whatFits() {
        checks.fits("", "");
        checks.fitsNot("", "a", " ");
        checks.fits("ab", "ab");
        checks.fitsNot("ab", "", "a", "b", "ba", "abb", "aab", "AB");
        checks.fits("a b", "a b");
        checks.fitsNot("a b", "ab");
        checks.fits("a|bc", "a", "bc");
        checks.fitsNot("a|bc", "", "b", "ac", "abc");
        checks.fits("a|", "", "a");
        checks.fits("|a|b", "", "a", "b");
        checks.fitsNot("|a|b", "ab", "c");
        checks.fits("a.&.b", "ab");
        checks.fitsNot("a.&.b", "", "a", "aa", "bb");
        checks.fitsNot("a&", "", "a");
        checks.fits("a*&", "");
        checks.fitsNot("a*&", "a");
        checks.fits("a*&(aa)*&(aaa)*", "", "aaaaaa");
        checks.fitsNot("a*&(aa)*&(aaa)*", "a", "aa", "aaa", "aaaa", "aaaaa");
        checks.fits("a|b&c|d", "a", "d");
        checks.fitsNot("a|b&c|d", "", "b", "c");
        checks.fits("(a|b)&(c|b)", "b");
        checks.fitsNot("(a|b)&(c|b)", "a", "c", "");
        checks.fits("a(b|c&.)d", "abd", "acd");
        checks.fitsNot("a(b|c&.)d", "ad", "abcd");
        checks.fits("~a", "", "b", "aa", "ab");
        checks.fitsNot("~a", "a");
        checks.fits("~~a", "a");
        checks.fitsNot("~~a", "", "b", "aa");
        checks.fits("~()", "a", "ab");
        checks.fitsNot("~()", "");
        checks.fits("~a*", "b", "ab", "aba");
        checks.fitsNot("~a*", "", "a", "aa");
        checks.fits("(~a)*", "", "a".repeat(2), "b");
        checks.fitsNot("(~a)*", "a");
        checks.fits("~ab", "b", "bb", "aab", "abb");
        checks.fitsNot("~ab", "ab", "", "a");
        checks.fits("a~b", "a", "aa", "abb");
        checks.fitsNot("a~b", "ab", "b", "");
        checks.fits("~(.*ab.*)", "", "ba", "aacb", "bbaa");
        checks.fitsNot("~(.*ab.*)", "ab", "cabc");
        checks.fits("~(a|b)", "", "ab", "c");
        checks.fitsNot("~(a|b)", "a", "b");
        checks.fits("~a&~b", "", "ab");
        checks.fitsNot("~a&~b", "a", "b");
        checks.fits("(a|ab)(c|bcd)d*", "abcd", "ac", "abc", "acd", "abcdd");
        checks.fitsNot("(a|ab)(c|bcd)d*", "abd", "ad");
        checks.fits(".", "a", " ", "~", "|");
        checks.fitsNot(".", "", "ab");
        checks.fits("^-,1", "^-,1");
        checks.fits("|".repeat(39) + "a", "", "a");
        checks.fitsNot("|".repeat(39) + "a", "aa", "|");
        checks.fits("~(~a|~b)|c", "c");
        checks.fitsNot("~(~a|~b)|c", "a", "b", "");
    }

    private static void classes() {
        checks.fits("[a-c]", "a", "b", "c");
        checks.fitsNot("[a-c]", "", "d", "`", "-", "ab");
        checks.fits("[^a-c]", "d", "-", " ", "~", "^");
        checks.fitsNot("[^a-c]", "", "a", "b", "c", "dd", "da");
        checks.fits("[a-]", "a", "-");
        checks.fitsNot("[a-]", "b", "]");
        checks.fits("[-a]", "a", "-");
        checks.fitsNot("[-a]", "b", "^");
        checks.fits("[a-c-e]", "a", "b", "c", "-", "e");
        checks.fitsNot("[a-c-e]", "d", ",");
        checks.fits("[a-c--0]", "a", "b", "c", "-", ".", "/", "0");
        checks.fitsNot("[a-c--0]", ",", "1", "d");
        checks.fits("[--]", "-");
        checks.fitsNot("[--]", "a", "--");
        checks.fits("[---]", "-");
        checks.fits("[--0]", "-", ".", "0");
        checks.fitsNot("[--0]", ",", "1");
        checks.fits("[^-a]", "b", "^", "_", "`");
        checks.fitsNot("[^-a]", "-", "a");
        checks.fits("[^--a]", ",", "b");
        checks.fitsNot("[^--a]", "-", "Z", "a");
        checks.fits("[a^]", "a", "^");
        checks.fitsNot("[a^]", "b");
        checks.fits("[^^]", "a");
        checks.fitsNot("[^^]", "^", "");
        checks.fits("[^^-b]", "]", "c", "-");
        checks.fitsNot("[^^-b]", "^", "_", "`", "a", "b");
        checks.fits("[[-]", "[", "-");
        checks.fits("[.]", ".");
        checks.fitsNot("[.]", "a");
        checks.fits("[|&~*+?{}()[]", "|", "&", "~", "*", "+", "?", "{", "}", "(", ")", "[");
        checks.fitsNot("[|&~*+?{}()[]", "]", "a");
        checks.fits("[ -~]", " ", "~", "]");
        checks.fitsNot("[^ -~]", " ", "~", "]", "");
        checks.fits("~[a]", "", "b", "aa");
        checks.fitsNot("~[a]", "a");
        checks.fits("[ab]*c", "c", "abbac");
        checks.fitsNot("[ab]*c", "", "acc");
        checks.fits("[a-]z", "az", "-z");
        checks.fitsNot("[a-]z", "bz");
    }

    private static void loops() {
        checks.fits("a*", "", "a", "aaaa", "a".repeat(24));
        checks.fitsNot("a*", "b", "aab");
        checks.fits("a+", "a", "aa");
        checks.fitsNot("a+", "", "ab");
        checks.fits("a?", "", "a");
        checks.fitsNot("a?", "aa", "b");
        checks.fits("a{0}", "");
        checks.fitsNot("a{0}", "a");
        checks.fits("a{1}", "a");
        checks.fitsNot("a{1}", "", "aa");
        checks.fits("a{9}", "a".repeat(9));
        checks.fitsNot("a{9}", "a".repeat(8), "a".repeat(10), "");
        checks.fits("a{2,}", "aa", "aaa", "a".repeat(24));
        checks.fitsNot("a{2,}", "", "a", "aab");
        checks.fits("a{0,}", "", "a", "aa");
        checks.fits("a{2,4}", "aa", "aaa", "aaaa");
        checks.fitsNot("a{2,4}", "", "a", "aaaaa");
        checks.fits("a{0,2}", "", "a", "aa");
        checks.fitsNot("a{0,2}", "aaa");
        checks.fits("a{0,0}", "");
        checks.fitsNot("a{0,0}", "a");
        checks.fits("a{3,3}", "aaa");
        checks.fitsNot("a{3,3}", "aa", "aaaa");
        checks.fits("(ab|c)*", "", "abc", "cabab");
        checks.fitsNot("(ab|c)*", "a", "ba");
        checks.fits("ab*", "a", "abb");
        checks.fitsNot("ab*", "abab", "");
        checks.fits("(a?){3}", "", "a", "aaa");
        checks.fitsNot("(a?){3}", "aaaa");
        checks.fits("a{2}{3}", "aaaaaa");
        checks.fitsNot("a{2}{3}", "aaaaa", "aa", "aaa");
        checks.fits("(aa|aaa){2,3}", "aaaa", "aaaaa", "a".repeat(9));
        checks.fitsNot("(aa|aaa){2,3}", "aaa", "a".repeat(10));
        checks.fits("a{2}*", "", "aa", "aaaa");
        checks.fitsNot("a{2}*", "a", "aaa");
        checks.fits("a{2,}?", "", "aa", "aaa");
        checks.fitsNot("a{2,}?", "a");
        checks.fits("a?+", "", "aa");
        checks.fits("a+?", "", "aa");
        checks.fits("()*", "");
        checks.fitsNot("()*", "a");
        checks.fits("(|a)+", "", "aa");
        checks.fits("(~a){2}", "", "aa", "b", "ab");
        checks.fitsNot("(~a){2}", "a");
        checks.fits("(a&b)*", "");
        checks.fits("(a&b){0}", "");
        checks.fits("(a&b)?", "");
        checks.fitsNot("(a&b)+", "", "a", "b");
        checks.fits("a{5}{4}{1}", "a".repeat(20));
        checks.fitsNot("a{5}{4}{1}", "a".repeat(19), "a".repeat(21));
    }

    private static void text() {
        DerivativeMatcher x = new DerivativeMatcher();
        checks.due("text of 24", Checks.text(x, "b".repeat(24)), 24);
        checks.due("the buffer is empty then", x.text(), 0);
        checks.due("text of 24 again", Checks.text(x, "b".repeat(24)), 24);
        Checks.pattern(x, 0, "b*");
        checks.due("text of 25", Checks.text(x, "a".repeat(25)), BAD);
        checks.due("the text stayed", x.find(0, 0), 24);
        checks.due("the buffer stayed", x.text(), BAD);
        checks.due("the buffer can be read as a pattern", x.pattern(1), 0);
        checks.due("the text stayed still", x.matches(1), false);
        checks.due("text of 40", Checks.text(x, "a".repeat(40)), BAD);
        checks.due("pattern of 40", x.pattern(1), 0);
        checks.due("a shorter text", Checks.text(x, "bb"), 2);
        checks.due("nothing of the old one is left", x.find(0, 0), 2);
        checks.due("nor behind its end", x.find(0, 3), BAD);
        checks.due("signs are characters of a text", Checks.text(x, "(*[~"), 4);
        Checks.pattern(x, 0, "[(][*][[][~]");
        checks.due("and fit as such", x.matches(0), true);
        checks.due("the empty text", x.text(), 0);
        checks.due("fits the other answers anew", x.matches(0), false);
    }

    private static void matches() {
        DerivativeMatcher x = new DerivativeMatcher();
        Checks.pattern(x, 0, "a*b");
        Checks.pattern(x, 1, "~(a*b)");
        Checks.text(x, "aab");
        checks.due("matches 0", x.matches(0), true);
        checks.due("matches 1", x.matches(1), false);
        Checks.text(x, "aaba");
        checks.due("a part is not enough", x.matches(0), false);
        checks.due("its complement", x.matches(1), true);
        Checks.pattern(x, 1, ".*");
        for (int p : NO_PATTERNS) {
            checks.due("matches " + p, x.matches(p), false);
        }
    }

    private static void find() {
        DerivativeMatcher x = new DerivativeMatcher();
        Checks.pattern(x, 0, "ab+|b");
        Checks.pattern(x, 1, "a*");
        Checks.text(x, "cabbbaab");
        checks.due("the longest", x.find(0, 0), 105);
        checks.due("from its beginning", x.find(0, 1), 105);
        checks.due("the leftmost, though shorter", x.find(0, 2), 203);
        checks.due("from 5", x.find(0, 5), 608);
        checks.due("from 7", x.find(0, 7), 708);
        checks.due("from the end", x.find(0, 8), NONE);
        checks.due("behind the end", x.find(0, 9), BAD);
        checks.due("before the beginning", x.find(0, -1), BAD);
        checks.due("far off", x.find(0, Integer.MAX_VALUE), BAD);
        checks.due("far before", x.find(0, Integer.MIN_VALUE), BAD);
        checks.due("the empty part", x.find(1, 0), 0);
        checks.due("the longest though the empty one fits", x.find(1, 5), 507);
        checks.due("the empty part at the end", x.find(1, 8), 808);
        for (int p : NO_PATTERNS) {
            checks.due("find of pattern " + p, x.find(p, 0), BAD);
        }
        Checks.text(x, "a".repeat(24));
        checks.due("the whole of the longest text", x.find(1, 0), 24);
        checks.due("its last character", x.find(1, 23), 2324);
        checks.due("its end", x.find(1, 24), 2424);
        checks.due("no b there", x.find(0, 0), NONE);
        Checks.pattern(x, 1, "~a");
        checks.due("a complement from the end", x.find(1, 24), 2424);
        checks.due("a complement from the last place", x.find(1, 23), 2323);
    }

    private static void counted(String pattern, String text, int want) {
        DerivativeMatcher x = new DerivativeMatcher();
        Checks.pattern(x, 0, pattern);
        Checks.text(x, text);
        checks.due("count of " + pattern + " in " + text, x.count(0), want);
    }

    private static void count() {
        counted("a", "", 0);
        counted("a", "aaa", 3);
        counted("aa", "aaaaa", 2);
        counted("a+", "aabaa", 2);
        counted("", "", 1);
        counted("", "abc", 4);
        counted("a*", "a", 2);
        counted("a*", "bab", 4);
        counted("a*", "aabaa", 4);
        counted(".*", "abc", 2);
        counted("", "a".repeat(24), 25);
        counted("ab|b", "abbab", 3);
        counted("~a", "a", 2);
        counted("b|a&b", "ccc", 0);
        counted("aba", "ababa", 1);
        DerivativeMatcher x = new DerivativeMatcher();
        for (int p : NO_PATTERNS) {
            checks.due("count of pattern " + p, x.count(p), BAD);
        }
        Checks.pattern(x, 1, "b");
        Checks.text(x, "bcb");
        checks.due("count of pattern 1", x.count(1), 2);
        checks.due("count of pattern 0", x.count(0), 4);
    }

    private static void ends(String pattern, String text, int want) {
        DerivativeMatcher x = new DerivativeMatcher();
        Checks.pattern(x, 1, pattern);
        Checks.text(x, text);
        checks.due("earliest of " + pattern + " in " + text, x.earliest(1), want);
    }

    private static void earliest() {
        ends("a", "a", 1);
        ends("a", "bba", 3);
        ends("a*", "bba", 0);
        ends("a+", "baaa", 2);
        ends("a", "", NONE);
        ends("a", "bbb", NONE);
        ends("", "", 0);
        // A part that begins later can end earlier.
        ends("abcd|c", "abcd", 3);
        ends("a...|b..|c", "abcd", 3);
        ends("~()", "abc", 1);
        ends("a{9}{2}", "a".repeat(24), 18);
        ends(".{8}{3}", "a".repeat(24), 24);
        DerivativeMatcher x = new DerivativeMatcher();
        for (int p : NO_PATTERNS) {
            checks.due("earliest of pattern " + p, x.earliest(p), BAD);
        }
    }

    private static void shortestIs(String pattern, int n, String want) {
        DerivativeMatcher x = new DerivativeMatcher();
        Checks.pattern(x, 1, pattern);
        checks.due("shortest of " + pattern, x.shortest(1, n), want.length());
        checks.due("the word of " + pattern, Checks.word(x), want);
    }

    private static void shortest() {
        for (int length = 0; length <= 4; length++) {
            eachWord("", length);
        }
        shortestIs("a*", 4, "");
        shortestIs("a+", 4, "a");
        shortestIs("c|ab", 4, "c");
        shortestIs("cb|ca|bc", 4, "bc");
        shortestIs("...", 3, "aaa");
        shortestIs("~()", 1, "a");
        shortestIs("~(a*)", 4, "b");
        shortestIs("[^ab]", 4, "c");
        shortestIs("[^a].[^b]", 3, "baa");
        shortestIs("d|ab", 4, "ab");
        shortestIs("~(.?.?.?)", 4, "aaaa");
        shortestIs(".{3}&.*c.*&.*b.*&.*a.*", 4, "abc");
        shortestIs("(~(.*aa.*)&~(.*bb.*)&.{4})&c?.*b", 4, "abab");
        DerivativeMatcher x = new DerivativeMatcher();
        Checks.pattern(x, 0, "ba");
        checks.due("at most 2", x.shortest(0, 2), 2);
        Checks.pattern(x, 0, "aaa|d");
        checks.due("at most 2: none", x.shortest(0, 2), NONE);
        checks.due("at most 0: none", x.shortest(0, 0), NONE);
        checks.due("n too great", x.shortest(0, 5), BAD);
        checks.due("n too small", x.shortest(0, -1), BAD);
        checks.due("n far off", x.shortest(0, Integer.MAX_VALUE), BAD);
        for (int p : NO_PATTERNS) {
            checks.due("shortest of pattern " + p, x.shortest(p, 4), BAD);
        }
        checks.due("the word stayed", Checks.word(x), "ba");
        checks.due("at most 3", x.shortest(0, 3), 3);
        checks.due("then it changes", Checks.word(x), "aaa");
        Checks.pattern(x, 0, "a{5}");
        checks.due("longer than 4", x.shortest(0, 4), NONE);
        Checks.pattern(x, 0, "d");
        checks.due("other letters alone", x.shortest(0, 4), NONE);
    }

    /** Each word is the shortest of the pattern that is itself, and of none of fewer characters. */
    private static void eachWord(String word, int length) {
        if (word.length() == length) {
            shortestIs(word, length, word);
            DerivativeMatcher x = new DerivativeMatcher();
            Checks.pattern(x, 0, word);
            if (length > 0) {
                checks.due("too short for " + word, x.shortest(0, length - 1), NONE);
            }
            return;
        }
        for (String letter : new String[] {"a", "b", "c"}) {
            eachWord(word + letter, length);
        }
    }

    private static void differ(String pattern, String other, int n, String want) {
        DerivativeMatcher x = new DerivativeMatcher();
        Checks.pattern(x, 0, pattern);
        Checks.pattern(x, 1, other);
        checks.due("difference of " + pattern + " and " + other, x.difference(n), want.length());
        checks.due("where " + pattern + " and " + other + " differ", Checks.word(x), want);
    }

    private static void difference() {
        differ("a", "", 4, "");
        differ("a*", "a+", 4, "");
        differ("a+", "a", 4, "aa");
        differ("a", "a+", 4, "aa");
        differ("(a|b)*", "(a*b*)", 4, "ba");
        differ("(ab)*", "(ab)?", 4, "abab");
        differ("b|c", "[^a]|ca", 4, "ca");
        differ("~a", "a", 4, "");
        differ("a{3}|c", "a{2,}|c", 3, "aa");
        DerivativeMatcher x = new DerivativeMatcher();
        Checks.pattern(x, 0, "(ab)*|c");
        Checks.pattern(x, 1, "(ab)?");
        checks.due("at most 4", x.difference(4), 1);
        Checks.pattern(x, 0, "(ab)*");
        checks.due("at most 3: none", x.difference(3), NONE);
        checks.due("at most 0: none", x.difference(0), NONE);
        checks.due("n too great", x.difference(5), BAD);
        checks.due("n too small", x.difference(-1), BAD);
        checks.due("n far off", x.difference(Integer.MIN_VALUE), BAD);
        checks.due("the word stayed", Checks.word(x), "c");
        Checks.pattern(x, 0, "(a*b*)*");
        Checks.pattern(x, 1, "[ab]*|d");
        checks.due("alike but for other letters", x.difference(4), NONE);
        Checks.pattern(x, 1, "[ab]*&~(a{5})");
        checks.due("alike but for longer ones", x.difference(4), NONE);
    }

    private static void word() {
        DerivativeMatcher x = new DerivativeMatcher();
        checks.due("word at first", x.word(0), BAD);
        Checks.pattern(x, 0, "cab");
        x.shortest(0, 4);
        checks.due("word 0", x.word(0), 'c');
        checks.due("word 1", x.word(1), 'a');
        checks.due("word 2", x.word(2), 'b');
        for (int i : new int[] {-1, 3, 4, 5, Integer.MAX_VALUE, Integer.MIN_VALUE}) {
            checks.due("word " + i, x.word(i), BAD);
        }
        Checks.pattern(x, 0, "b");
        Checks.text(x, "a");
        checks.due("the word stays", Checks.word(x), "cab");
        x.shortest(0, 4);
        checks.due("a shorter word", Checks.word(x), "b");
        x.difference(4);
        checks.due("the empty word", x.word(0), BAD);
    }

    /** The dearest patterns, as often as an object has to bear: they must end, and throw nothing. */
    /** Three values wait at each of the levels; what comes behind them shows that none was left out. */
    private static void deepestStack() {
        String deep = "(|&".repeat(9) + "a*" + ")".repeat(9);
        checks.fits(deep + "ab", "ab");
        checks.fitsNot(deep + "ab", "", "a", "b", "aab", "ba");
        String telling = "(|.&".repeat(7) + "[ab]" + ")".repeat(7);
        checks.fits(telling, "", "a", "b");
        checks.fitsNot(telling, "c", "aa", "ab");
        DerivativeMatcher x = Checks.made(deep + "ab", telling, "");
        checks.due("shortest of the deepest", x.shortest(0, 4), 2);
        checks.due("word of the deepest", Checks.word(x), "ab");
        checks.due("difference of the deepest", x.difference(4), 0);
    }

    private static void exampleOfReadme() {
        DerivativeMatcher x = new DerivativeMatcher();
        checks.due("README: pattern", Checks.pattern(x, 0, "a+b?"), 0);
        checks.due("README: text", Checks.text(x, "caab"), 4);
        checks.due("README: matches", x.matches(0), false);
        checks.due("README: find", x.find(0, 0), 104);
        checks.due("README: count", x.count(0), 1);
        checks.due("README: earliest", x.earliest(0), 2);
        checks.due("README: shortest", x.shortest(0, 4), 1);
        checks.due("README: word", x.word(0), 'a');
        checks.due("README: difference", x.difference(4), 0);
        checks.due("README: wrong pattern", Checks.pattern(x, 0, "a{3,2}"), -14);
        checks.due("README: pattern that breaks off", Checks.pattern(x, 0, "(a"), -12);
    }

    private static void dearestCalls() {
        String[] dear = {"(".repeat(19) + "a" + ")".repeat(19), "a" + "{9}".repeat(13), ".*".repeat(20),
            "~".repeat(39) + "a", "|&(".repeat(9) + "~a*" + ")".repeat(9), "|&".repeat(20),
            "|&" + "(|&".repeat(9) + "a*" + ")".repeat(9), "[^a]".repeat(10), "~(.{0,9}){9}".repeat(3),
            "[" + "ab".repeat(19) + "]", "(a*)*".repeat(8), "(".repeat(20) + ")".repeat(20)};
        for (String pattern : dear) {
            DerivativeMatcher x = new DerivativeMatcher();
            checks.due("pattern " + pattern, Checks.pattern(x, 0, pattern), 0);
            Checks.pattern(x, 1, pattern);
            Checks.text(x, "a".repeat(24));
            for (int turn = 0; turn < 65; turn++) {
                x.matches(0);
                x.find(0, turn % 25);
                x.count(0);
                x.earliest(0);
                x.shortest(0, turn % 5);
                checks.due("difference of alike patterns", x.difference(4), NONE);
            }
        }
    }
}

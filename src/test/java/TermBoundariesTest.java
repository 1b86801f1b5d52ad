/**
 * The sections "What it is" and "Terms" of the document, sentence by sentence: for each one that names a
 * boundary a test of its own, with the cases on both sides of it.
 */
public final class TermBoundariesTest {
    private static final int BAD = DerivativeMatcher.BAD;
    private static final int NONE = DerivativeMatcher.NONE;
    private static final Checks checks = new Checks();

    public static void main(String[] args) {
        calls512();
        characters();
        buffer();
        text();
        patterns();
        unions();
        intersections();
        rows();
        pieces();
        pieceMarks();
        marks();
        markBounds();
        atoms();
        classes();
        items();
        itemsWithDash();
        readToTheEnd();
        wrongPlace();
        wrongAtTheEnd();
        fitsUnion();
        fitsIntersection();
        fitsRow();
        fitsComplement();
        fitsLastMark();
        fitsTimes();
        fitsNoPart();
        fitsParentheses();
        fitsDot();
        fitsClass();
        fitsCharacter();
        parts();
        checks.end();
    }

    private static void calls512() {
        checks.sentence("An object is used for at most 512 calls after it has been made");
        DerivativeMatcher x = new DerivativeMatcher();
        for (int turn = 0; turn < 64; turn++) {
            char c = (char) ('a' + turn % 3);
            int p = turn % 2;
            checks.due("type in turn " + turn, x.type(c), true);
            checks.due("pattern in turn " + turn, x.pattern(p), 0);
            checks.due("type again in turn " + turn, x.type(c), true);
            checks.due("text in turn " + turn, x.text(), 1);
            checks.due("matches in turn " + turn, x.matches(p), true);
            checks.due("count in turn " + turn, x.count(p), 1);
            checks.due("shortest in turn " + turn, x.shortest(p, 4), 1);
            checks.due("word in turn " + turn, x.word(0), c);
        }
        DerivativeMatcher y = new DerivativeMatcher();
        for (int call = 1; call <= 511; call++) {
            checks.due("type as call " + call, y.type('a'), call <= 40);
        }
        checks.due("call 512", y.pattern(0), 0);
        DerivativeMatcher z = new DerivativeMatcher();
        for (int call = 1; call <= 510; call += 2) {
            checks.due("type as call " + call, z.type(')'), true);
            checks.due("pattern behind call " + call, z.pattern(0), -10);
        }
        checks.due("call 511", z.matches(0), true);
        checks.due("call 512", z.matches(1), true);
    }

    private static void characters() {
        checks.sentence("CHARACTERS are the codes 32 to 126.");
        for (int c = 0; c < 1000; c++) {
            checks.due("type " + c, new DerivativeMatcher().type((char) c), c >= 32 && c <= 126);
        }
        checks.fits(".", " ", "~");
        checks.fits("[ ]", " ");
        checks.fits("[~]", "~");
        checks.fits("[ -~]", " ", "~");
        checks.fits("[^!-~]", " ");
        checks.fits("[^ -}]", "~");
    }

    private static void buffer() {
        checks.sentence("THE BUFFER has at most 40 of them, at first none.");
        checks.due("the text of the first buffer", new DerivativeMatcher().text(), 0);
        checks.due("the pattern of the first buffer", new DerivativeMatcher().pattern(0), 0);
        DerivativeMatcher x = new DerivativeMatcher();
        for (int before = 0; before < 40; before++) {
            checks.due("type behind " + before, x.type('('), true);
        }
        checks.due("type behind 40", x.type('('), false);
        checks.due("40 characters are read", x.pattern(0), -50);
    }

    private static void text() {
        checks.sentence("THE TEXT has at most 24, at first none.");
        checks.due("the first text has place 0", new DerivativeMatcher().find(0, 0), 0);
        checks.due("the first text has no place 1", new DerivativeMatcher().find(0, 1), BAD);
        DerivativeMatcher x = new DerivativeMatcher();
        checks.due("a text of 24", Checks.text(x, "a".repeat(24)), 24);
        checks.due("it has place 24", x.find(0, 24), 2424);
        checks.due("it has no place 25", x.find(0, 25), BAD);
        checks.due("a text of 25", Checks.text(x, "a".repeat(25)), BAD);
        checks.due("there is no place 25 still", x.find(0, 25), BAD);
    }

    private static void patterns() {
        checks.sentence("There are the PATTERNS 0 and 1, at first both the empty one (just the empty text fits).");
        for (int p = 0; p <= 1; p++) {
            DerivativeMatcher x = new DerivativeMatcher();
            checks.due("the empty text and pattern " + p, x.matches(p), true);
            for (char c = 32; c <= 126; c++) {
                Checks.text(x, String.valueOf(c));
                checks.due(c + " and pattern " + p, x.matches(p), false);
            }
            checks.due("the shortest word", x.shortest(p, 4), 0);
        }
        checks.due("where both differ", new DerivativeMatcher().difference(4), NONE);
        checks.due("pattern 0 can be read", Checks.pattern(new DerivativeMatcher(), 0, "a"), 0);
        checks.due("pattern 1 can be read", Checks.pattern(new DerivativeMatcher(), 1, "a"), 0);
        checks.due("pattern -1 can't", Checks.pattern(new DerivativeMatcher(), -1, "a"), BAD);
        checks.due("pattern 2 can't", Checks.pattern(new DerivativeMatcher(), 2, "a"), BAD);
    }

    private static void unions() {
        checks.sentence("a UNION is one or more INTERSECTIONS with | between them");
        checks.right("a", "a|b", "a|b|c", "|", "a|", "|a", "||", "(|)", "|".repeat(40), "a|".repeat(20));
        checks.fits("|".repeat(40), "");
        checks.fitsNot("|".repeat(40), "a", "|");
        checks.fits("b|".repeat(19) + "a", "a", "b");
        checks.fitsNot("b|".repeat(19) + "a", "", "ba", "bb");
    }

    private static void intersections() {
        checks.sentence("an intersection one or more ROWS with & between them");
        checks.right("a", "a&b", "a&b&c", "&", "a&", "&a", "&&", "(&)", "&".repeat(40), "a&".repeat(20));
        checks.fits("&".repeat(40), "");
        checks.fitsNot("&".repeat(40), "a", "&");
        checks.fits(".&".repeat(19) + "a", "a");
        checks.fitsNot(".&".repeat(19) + "a", "", "b", "aa");
        // | stands between intersections, so & binds before it on both sides.
        checks.fits("a|b&c", "a");
        checks.fits("b&c|a", "a");
        checks.fitsNot("a|b&c", "b", "c");
        checks.fitsNot("b&c|a", "b", "c");
    }

    private static void rows() {
        checks.sentence("a row is any number of PIECES, none too.");
        checks.right("", "()", "|", "&", "(|)", "(&)", "a", "ab", "a".repeat(40), "~()");
        checks.fits("", "");
        checks.fits("()", "");
        checks.fits("a".repeat(24), "a".repeat(24));
        checks.fitsNot("a".repeat(23), "a".repeat(24));
        checks.fitsNot("a".repeat(25), "a".repeat(24));
        checks.fitsNot("a".repeat(40), "a".repeat(24), "a".repeat(8), "a", "");
        checks.fitsLengths("a?".repeat(20), 0, 20);
    }

    private static void pieces() {
        checks.sentence("A piece is ~ and a piece");
        checks.right("~a", "~~a", "~()", "~[a]", "~.", "~a~b", "~".repeat(39) + "a", "~".repeat(38) + "()");
        checks.wrongAt(1, "~", "~|", "~&", "~)", "~*", "~+", "~?", "~{1}", "~}", "~]");
        checks.wrongAt(2, "~~", "~~|a", "(~)", "(~|)", "a~", "a~|", "a~*");
        checks.wrongAt(40, "~".repeat(40));
        checks.fitsNot("~".repeat(39) + "a", "a");
        checks.fits("~".repeat(39) + "a", "", "b", "aa");
        checks.fits("~".repeat(38) + "a", "a");
        checks.fitsNot("~".repeat(38) + "a", "", "b", "aa");
    }

    private static void pieceMarks() {
        checks.sentence("or an ATOM and any number of MARKS behind it.");
        checks.right("a", "a*", "a**", "()*", "(a)*", "[a]*", ".*", "a*+?{1}{1,}{1,2}", "a" + "*".repeat(39),
                "a" + "?".repeat(39), "a" + "{1}".repeat(13));
        checks.wrongAt(0, "*", "+", "?", "{1}");
        checks.wrongAt(1, "(*)", "|*", "&+", "(?", "({1})");
        checks.wrongAt(2, "a|*", "a&*", "a|{1}", "a(*)");
        checks.fitsLengths("a" + "*".repeat(39), 0, 24);
        checks.fitsLengths("a" + "+".repeat(39), 1, 24);
        checks.fitsLengths("a" + "?".repeat(39), 0, 1);
        checks.fitsLengths("a" + "{1}".repeat(13), 1, 1);
    }

    private static void marks() {
        checks.sentence("or { and a digit m, then perhaps a comma and perhaps a digit n behind that, and }");
        for (char digit = '0'; digit <= '9'; digit++) {
            checks.right("a{" + digit + "}", "a{" + digit + ",}", "a{0," + digit + "}", "a{" + digit + ",9}");
            checks.wrongAt(2, "a{," + digit + "}");
            checks.wrongAt(3, "a{" + digit, "a{" + digit + digit + "}", "a{" + digit + "-" + digit + "}");
            checks.wrongAt(4, "a{" + digit + ",");
            checks.wrongAt(5, "a{0," + digit, "a{0," + digit + digit + "}", "a{0," + digit + ",}");
        }
        for (char c = 32; c <= 126; c++) {
            if (c < '0' || c > '9') {
                checks.wrongAt(2, "a{" + c + "}");
                if (c != ',' && c != '}') {
                    checks.wrongAt(3, "a{1" + c + "}");
                }
                if (c != '}') {
                    checks.wrongAt(4, "a{1," + c + "}");
                    checks.wrongAt(5, "a{1,2" + c + "}");
                }
            }
        }
        checks.wrongAt(2, "a{");
    }

    private static void markBounds() {
        checks.sentence("with n it has to be at least m.");
        for (int m = 0; m <= 9; m++) {
            for (int n = 0; n <= 9; n++) {
                String pattern = "a{" + m + "," + n + "}";
                if (n >= m) {
                    checks.right(pattern);
                } else {
                    checks.wrongAt(4, pattern);
                }
            }
        }
    }

    private static void atoms() {
        checks.sentence("An atom is ( and a union and ), or a CLASS, or . or any other character but "
                + "| & ~ * + ? { } ( ) [ ] (a space too).");
        for (char c = 32; c <= 126; c++) {
            if (Checks.SIGNS.indexOf(c) < 0) {
                checks.right(String.valueOf(c), c + "*", "~" + c, "(" + c + ")");
            }
        }
        checks.right(" ", "()", "(|)", "(.)", "[a]", "(".repeat(20) + ")".repeat(20), "()".repeat(20));
        checks.wrongAt(0, "*", "+", "?", "{", "}", ")", "]");
        checks.wrongAt(1, "~", "(", "[", "~*", "~+", "~?", "~{", "~}", "~)", "~]", "~|", "~&");
        checks.wrongAt(2, "((", "((*", "(a", "()]");
        checks.wrongAt(39, "(".repeat(20) + ")".repeat(19) + "]");
        checks.wrongAt(38, "(".repeat(19) + ")".repeat(21));
        checks.wrongAt(40, "(".repeat(21) + ")".repeat(19));
    }

    private static void classes() {
        checks.sentence("A class is [ and perhaps ^ (just there), then one or more ITEMS, and ]");
        for (char c = 32; c <= 126; c++) {
            if (c != ']' && c != '^') {
                checks.right("[" + c + "]");
            }
            if (c != ']') {
                checks.right("[^" + c + "]", "[a" + c + "]", "[^a" + c + "]");
            }
        }
        checks.right("[a^]", "[^^]", "[" + "ab".repeat(19) + "]", "[^" + "ab".repeat(18) + "a]");
        checks.wrongAt(1, "[", "[]", "[]]", "[]a]");
        checks.wrongAt(2, "[^", "[^]", "[^]]", "[^]a]", "[a");
        checks.wrongAt(40, "[" + "a".repeat(39), "[^" + "a".repeat(38));
        checks.fits("[a^]", "a", "^");
        checks.fitsNot("[a^]", "b", "");
        checks.fits("[^^]", "a", "[");
        checks.fitsNot("[^^]", "^", "");
        checks.fits("[^a^]", "b");
        checks.fitsNot("[^a^]", "a", "^");
    }

    private static void items() {
        checks.sentence("an item is a character but ], or two of these with - between them, of which the first is "
                + "not greater than the second");
        for (char first = 32; first <= 126; first++) {
            for (char last = 32; last <= 126; last++) {
                if (first != ']' && first != '^' && last != ']') {
                    if (first <= last) {
                        checks.right("[" + first + "-" + last + "]");
                    } else {
                        checks.wrongAt(3, "[" + first + "-" + last + "]");
                    }
                }
            }
        }
        checks.right("[^^-^]", "[a^-^]");
        checks.wrongAt(4, "[^^-[]", "[^b-a]", "[ab-a]");
        checks.wrongAt(3, "[a-", "[b-aa]", "[b-a");
        checks.wrongAt(5, "[a-b]]", "[a-c]]");
        checks.wrongAt(39, "[" + "a".repeat(36) + "b-a", "[^" + "a".repeat(35) + "b-a");
    }

    private static void itemsWithDash() {
        checks.sentence("a character, a - and another character but ] are always taken so");
        checks.wrongAt(3, "[a--]", "[a-,]", "[a- ]");
        checks.right("[a-]", "[-]", "[--]", "[---]", "[----]", "[-----]", "[a-a-]", "[a-a--]", "[-a]");
        checks.wrongAt(4, "[-a--]");
        checks.wrongAt(6, "[a-ab-a]", "[a-a-- ]");
        checks.fits("[a-c-e]", "a", "b", "c", "-", "e");
        checks.fitsNot("[a-c-e]", "d", ".");
        checks.fits("[--/]", "-", ".", "/");
        checks.fitsNot("[--/]", ",", "0");
        checks.fits("[---a]", "-", "a");
        checks.fitsNot("[---a]", "/", "A");
        checks.fits("[a-]", "a", "-");
        checks.fitsNot("[a-]", "b", "]");
        checks.fits("[^-a]", "_", "^");
        checks.fitsNot("[^-a]", "-", "a");
    }

    private static void readToTheEnd() {
        checks.sentence("The buffer is read from the left as a union that goes to its end.");
        checks.wrongAt(1, "a)", "a)b", "a)|b", "a}", "a]");
        checks.wrongAt(2, "())", "ab)(", "a|)");
        checks.fitsNot("a|b" + "c".repeat(37), "a".repeat(2), "b", "bc");
        checks.fits("a".repeat(3) + "b?".repeat(18) + "c", "aaac", "aaabbbc");
        checks.fitsNot("a".repeat(3) + "b?".repeat(18) + "c", "aaa", "aaab");
    }

    private static void wrongPlace() {
        checks.sentence("It is WRONG at the first place (how many characters were read before it) with whose "
                + "character no such pattern goes on");
        for (int before = 0; before < 40; before++) {
            checks.wrongAt(before, "a".repeat(before) + ")", "|".repeat(before) + "]", "a".repeat(before) + "}");
            // The first of several places is told.
            checks.wrongAt(before, "a".repeat(before) + ")*(".substring(0, Math.min(3, 40 - before)));
        }
        checks.wrongAt(0, ")", "*", "]a", "}(");
        checks.wrongAt(39, "(".repeat(39) + "*", "~".repeat(39) + "|", "[" + "a".repeat(37) + "]]");
    }

    private static void wrongAtTheEnd() {
        checks.sentence("or at the end, if none is at its end there.");
        for (int length = 1; length <= 40; length++) {
            String before = "a".repeat(length - 1);
            checks.wrongAt(length, before + "(", before + "[", before + "~", "(" + before);
            checks.right(before + "|", before + "&", before + "a");
        }
        checks.wrongAt(1, "(", "[", "~");
        checks.wrongAt(40, "(".repeat(40), "a".repeat(39) + "{", "a".repeat(38) + "{1", "a".repeat(37) + "{1,",
                "a".repeat(36) + "{1,2", "a".repeat(38) + "[^", "a".repeat(38) + "[a", "a".repeat(37) + "[a-",
                "a".repeat(36) + "[a-b", "|".repeat(39) + "(", "a".repeat(37) + "(a|", "a".repeat(37) + "(a&");
    }

    private static void fitsUnion() {
        checks.sentence("A text fits a union, if it fits one of its intersections");
        checks.fits("a|b|c", "a", "b", "c");
        checks.fitsNot("a|b|c", "", "d", "ab");
        checks.fits("a|a", "a");
        checks.fits("a|", "a", "");
        checks.fits("|a", "a", "");
        checks.fitsNot("a|", "aa", "|");
        checks.fitsNot("a&b|b&c", "a", "b", "c", "");
    }

    private static void fitsIntersection() {
        checks.sentence("an intersection, if it fits all its rows");
        checks.fits("a?b?c?&.*b.*&.*c", "bc", "abc");
        checks.fitsNot("a?b?c?&.*b.*&.*c", "bcc", "ac", "ab", "");
        checks.fits("a&a", "a");
        checks.fits("&", "");
        checks.fitsNot("a&", "a", "");
        checks.fitsNot("&a", "a", "");
        checks.fits("&a*", "");
        checks.fitsNot("&a*", "a");
    }

    private static void fitsRow() {
        checks.sentence("a row, if it can be cut into as many parts (perhaps empty ones) as it has pieces, each of "
                + "which fits its piece");
        checks.fits("()", "");
        checks.fitsNot("()", "a");
        checks.fits("a*b*", "", "a", "b", "ab", "aabb");
        checks.fitsNot("a*b*", "ba", "aba");
        checks.fits("a*aa*", "a", "aa");
        checks.fitsNot("a*aa*", "");
        checks.fits("(a|ab)(c|bc)", "ac", "abc", "abbc");
        checks.fitsNot("(a|ab)(c|bc)", "ab", "abbbc", "a");
        checks.fits("()a()", "a");
        checks.fits("a{9}a{9}a{6}", "a".repeat(24));
        checks.fitsNot("a{9}a{9}a{6}", "a".repeat(23));
        checks.fitsNot("a{9}a{9}a{7}", "a".repeat(24));
        checks.fits("a(" + "b".repeat(23) + "|c)", "a" + "b".repeat(23), "ac");
    }

    private static void fitsComplement() {
        checks.sentence("~ and a piece, if it does not fit the piece");
        checks.fitsNot("~()", "");
        checks.fits("~()", "a", "a".repeat(24));
        checks.fits("~a", "", "b", "aa", "a".repeat(24));
        checks.fitsNot("~a", "a");
        checks.fitsNot("~(.*)", "", "a", "a".repeat(24));
        checks.fits("~(a&b)", "", "a", "b", "a".repeat(24));
        checks.fitsNot("~(~())", "a", "a".repeat(24));
        checks.fits("~(~())", "");
        checks.fits("~.", "", "ab");
        checks.fitsNot("~.", "a", " ", "~");
        checks.fits("~[^a]", "", "a", "bb");
        checks.fitsNot("~[^a]", "b");
        checks.fits("~a~a", "", "aa", "b");
        checks.fitsNot("~a~a", "a");
    }

    private static void fitsLastMark() {
        checks.sentence("An atom with marks is what is before the last mark, with that");
        checks.fitsLengths("a{2}{3}", 6, 6);
        checks.fitsLengths("a{3}{8}", 24, 24);
        checks.fitsLengths("a{5}{5}", 25, 25);
        checks.fitsLengths("a{9}{9}{9}{9}", 6561, 6561);
        checks.fitsLengths("a?{2}", 0, 2);
        checks.fitsLengths("a*{0}", 0, 0);
        checks.fitsLengths("a{0}*", 0, 0);
        checks.fitsLengths("a{0}{9}", 0, 0);
        checks.fitsLengths("a+?", 0, 24);
        checks.fitsLengths("a?+", 0, 24);
        checks.fits("a{2}?", "", "aa");
        checks.fitsNot("a{2}?", "a", "aaa", "aaaa");
        checks.fits("a{3}*", "", "aaa", "aaaaaa", "a".repeat(24));
        checks.fitsNot("a{3}*", "a", "aa", "aaaa", "a".repeat(23));
        checks.fits("a{2,3}{2}", "a".repeat(4), "a".repeat(5), "a".repeat(6));
        checks.fitsNot("a{2,3}{2}", "a".repeat(3), "a".repeat(7));
        // The marks belong to the atom, and ~ stands before it with all of them.
        checks.fitsNot("~a*", "", "a", "aa");
        checks.fits("~a*", "b", "ab");
        checks.fitsNot("~a?", "", "a");
        checks.fits("~a{2}", "", "a", "aaa");
        checks.fitsNot("~a{2}", "aa");
    }

    private static void fitsTimes() {
        checks.sentence("any number of parts, at least one, at most one, just m, at least m, m to n parts, each of "
                + "which fits what is before the mark");
        checks.fitsLengths("a*", 0, 24);
        checks.fitsLengths("a+", 1, 24);
        checks.fitsLengths("a?", 0, 1);
        for (int m = 0; m <= 9; m++) {
            checks.fitsLengths("a{" + m + "}", m, m);
            checks.fitsLengths("a{" + m + ",}", m, 24);
            checks.fitsLengths("a?{" + m + "}", 0, m);
            for (int n = m; n <= 9; n++) {
                checks.fitsLengths("a{" + m + "," + n + "}", m, n);
            }
        }
        checks.fitsNot("a*", "b", "ab", "aba", "aaab");
        checks.fits("(ab|c)*", "", "ab", "c", "abcab");
        checks.fitsNot("(ab|c)*", "a", "b", "abca");
        checks.fits("[ab]{2,3}", "ab", "bab");
        checks.fitsNot("[ab]{2,3}", "a", "abab", "ac");
    }

    private static void fitsNoPart() {
        checks.sentence("no part at all: the empty text");
        for (String mark : new String[] {"*", "?", "{0}", "{0,}", "{0,0}", "{0,9}"}) {
            checks.fits("a" + mark, "");
            // Nothing fits a&b, so no part at all is the one way.
            checks.fits("(a&b)" + mark, "");
            checks.fitsNot("(a&b)" + mark, "a", "b", "ab");
        }
        for (String mark : new String[] {"{0}", "{0,0}"}) {
            checks.fitsNot("a" + mark, "a", "aa");
            checks.fitsNot(".*" + mark, "a");
            checks.fitsNot("~a" + mark, "");
        }
        for (String mark : new String[] {"+", "{1}", "{1,}", "{1,1}", "{9}", "{9,}", "{9,9}"}) {
            checks.fitsNot("a" + mark, "");
            checks.fitsNot("(a&b)" + mark, "", "a", "b");
            // The parts themselves may be empty.
            checks.fits("()" + mark, "");
            checks.fitsNot("()" + mark, "a");
            checks.fits("a?" + mark, "", "a");
        }
    }

    private static void fitsParentheses() {
        checks.sentence("( and ) change nothing.");
        String[][] alike = {{"", "()"}, {"abc", "a(b)c"}, {"abc", "(a)(b)(c)"}, {"a*", "(a)*"}, {"~a", "~(a)"},
            {"~a", "(~a)"}, {"a", "(".repeat(19) + "a" + ")".repeat(19)}, {"", "(".repeat(20) + ")".repeat(20)},
            {"a|b&.", "(a)|((b)&(.))"}, {"a*?", "(a*)?"}, {"", "()".repeat(20)}};
        for (String[] two : alike) {
            checks.right(two);
            DerivativeMatcher x = Checks.made(two[0], two[1], "");
            checks.due("where " + two[0] + " and " + two[1] + " differ", x.difference(4), NONE);
        }
    }

    private static void fitsDot() {
        checks.sentence(". fits every text of one character");
        for (char c = 32; c <= 126; c++) {
            checks.fits(".", String.valueOf(c));
            checks.fitsNot(".", String.valueOf(c) + c);
        }
        checks.fitsNot(".", "");
    }

    private static void fitsClass() {
        checks.sentence("a class those of one that is in one of its items (with ^: in none of them)");
        for (char c = 32; c <= 126; c++) {
            String text = String.valueOf(c);
            classFits("b-y", text, c >= 'b' && c <= 'y');
            classFits(" ", text, c == ' ');
            classFits("~", text, c == '~');
            classFits("!-}", text, c >= '!' && c <= '}');
            classFits(" -~", text, true);
            classFits("b-dx-z", text, c >= 'b' && c <= 'd' || c >= 'x' && c <= 'z');
            classFits("b-fd-h", text, c >= 'b' && c <= 'h');
            classFits("bb", text, c == 'b');
            classFits(".", text, c == '.');
            classFits("[-^", text, c >= '[' && c <= '^');
        }
        for (String pattern : new String[] {"[a]", "[^a]", "[^ -~]", "[ -~]"}) {
            checks.fitsNot(pattern, "", "aa", "bb", "ab", "ba");
        }
    }

    private static void classFits(String items, String text, boolean in) {
        checks.fits("[" + (in ? "" : "^") + items + "]", text);
        checks.fitsNot("[" + (in ? "^" : "") + items + "]", text);
    }

    private static void fitsCharacter() {
        checks.sentence("any other character just the text that is itself");
        for (char c = 32; c <= 126; c++) {
            if (c != '.' && Checks.SIGNS.indexOf(c) < 0) {
                String pattern = String.valueOf(c);
                DerivativeMatcher x = new DerivativeMatcher();
                checks.due("pattern " + pattern, Checks.pattern(x, 0, pattern), 0);
                checks.due("the empty text fits " + pattern, x.matches(0), false);
                for (char other = 32; other <= 126; other++) {
                    Checks.text(x, String.valueOf(other));
                    checks.due(other + " fits " + pattern, x.matches(0), other == c);
                }
                checks.fitsNot(pattern, pattern + pattern);
            }
        }
    }

    private static void parts() {
        checks.sentence("A PART of the text from i to j are its characters i .. j - 1 (0 <= i <= j <= its length).");
        for (int size = 0; size <= 25; size++) {
            DerivativeMatcher x = Checks.made(".".repeat(size), "", "abcdefghijklmnopqrstuvwx");
            for (int i = 0; i <= 24; i++) {
                int want = i + size <= 24 ? 100 * i + i + size : NONE;
                checks.due("the part of " + size + " from " + i, x.find(0, i), want);
            }
        }
        DerivativeMatcher x = Checks.made("[^a]*w", "[^b]+", "abcdefghijklmnopqrstuvwx");
        checks.due("character i is in it, j is not", x.find(0, 0), 123);
        checks.due("it can begin at 0, and end before 1", x.find(1, 0), 1);
        checks.due("it can end at the length", x.find(1, 1), 224);
        DerivativeMatcher y = Checks.made("", ".", "");
        checks.due("the part of the empty text", y.find(0, 0), 0);
        checks.due("there is no other", y.find(1, 0), NONE);
    }
}

import java.util.ArrayList;
import java.util.HashMap;
import java.util.List;
import java.util.Map;
import java.util.Random;
import java.util.TreeSet;

/** Random runs of calls against a second, slow program that follows the document's words. */
public final class OracleTest {
    private static final Checks checks = new Checks();
    private static final String SIGNS = "aabbcd|&~()*+?{}[]^-,0123. ";
    private static final int RUNS = 1500;

    public static void main(String[] args) {
        Random random = new Random(20261115);
        for (int run = 0; run < RUNS && checks.wrong() < 20; run++) {
            new Run(random).go(run);
        }
        for (int k = 0; k < 20000 && checks.wrong() < 20; k++) {
            comparePlace(randomBuffer(random, 1 + random.nextInt(12)));
        }
        checks.end();
    }

    private static String randomBuffer(Random random, int length) {
        StringBuilder buffer = new StringBuilder();
        for (int i = 0; i < length; i++) {
            buffer.append(SIGNS.charAt(random.nextInt(SIGNS.length())));
        }
        return buffer.toString();
    }

    private static void comparePlace(String buffer) {
        DerivativeMatcher x = new DerivativeMatcher();
        int place = Grammar.wrongPlace(buffer);
        checks.due("pattern " + buffer, Checks.pattern(x, 0, buffer), place < 0 ? 0 : -10 - place);
    }

    /** One object, and beside it what its state should be. */
    private static final class Run {
        private final Random random;
        private final DerivativeMatcher x = new DerivativeMatcher();
        private String buffer = "";
        private String text = "";
        private final String[] patterns = {"", ""};
        private String word = "";
        private String log = "";

        Run(Random random) {
            this.random = random;
        }

        void go(int run) {
            int before = checks.wrong();
            for (int call = 0; call < 30 && checks.wrong() == before; call++) {
                call();
            }
            if (checks.wrong() > before) {
                System.out.println("  in run " + run + ":" + log);
            }
        }

        private void due(String call, long got, long want) {
            log += " " + call;
            checks.due(call + " (buffer " + buffer + ", text " + text + ", patterns " + patterns[0] + " and "
                    + patterns[1] + ")", got, want);
        }

        private void call() {
            int p = random.nextInt(12) == 0 ? random.nextInt(5) - 2 : random.nextInt(2);
            int n = random.nextInt(12) == 0 ? random.nextInt(9) - 2 : random.nextInt(5);
            switch (random.nextInt(12)) {
                case 0: case 1:
                    typeAll(new Maker(random).pattern());
                    readPattern(p);
                    break;
                case 2: case 3:
                    typeAll(randomText());
                    takeText();
                    break;
                case 4:
                    due("matches(" + p + ")", x.matches(p) ? 1 : 0, matches(p) ? 1 : 0);
                    break;
                case 5:
                    int from = random.nextInt(text.length() + 3) - 1;
                    due("find(" + p + ", " + from + ")", x.find(p, from), find(p, from));
                    break;
                case 6:
                    due("count(" + p + ")", x.count(p), count(p));
                    break;
                case 7:
                    due("earliest(" + p + ")", x.earliest(p), earliest(p));
                    break;
                case 8:
                    due("shortest(" + p + ", " + n + ")", x.shortest(p, n), shortest(p, n));
                    break;
                case 9:
                    due("difference(" + n + ")", x.difference(n), difference(n));
                    break;
                case 10:
                    // What stands in the buffer waits, while other calls are made.
                    typeAll(random.nextInt(3) == 0 ? "\u001f\u007f" : randomBuffer(random, random.nextInt(3)));
                    break;
                default:
                    for (int i = -1; i <= 5; i++) {
                        due("word(" + i + ")", x.word(i), i < 0 || i >= word.length() ? -1 : word.charAt(i));
                    }
            }
        }

        private static boolean ok(int p) {
            return p == 0 || p == 1;
        }

        private void typeAll(String characters) {
            for (char c : characters.toCharArray()) {
                boolean taken = c >= 32 && c <= 126 && buffer.length() < 40;
                due("type(" + c + ")", x.type(c) ? 1 : 0, taken ? 1 : 0);
                buffer += taken ? String.valueOf(c) : "";
            }
        }

        private String randomText() {
            StringBuilder made = new StringBuilder();
            int length = random.nextInt(20) == 0 ? 22 + random.nextInt(5) : random.nextInt(9);
            for (int i = 0; i < length; i++) {
                made.append("aaabbbccd-^".charAt(random.nextInt(11)));
            }
            return made.toString();
        }

        private void readPattern(int p) {
            int got = x.pattern(p);
            if (!ok(p)) {
                due("pattern(" + p + ")", got, -1);
                return;
            }
            int place = Grammar.wrongPlace(buffer);
            due("pattern(" + p + ")", got, place < 0 ? 0 : -10 - place);
            patterns[p] = place < 0 ? buffer : patterns[p];
            buffer = "";
        }

        private void takeText() {
            if (buffer.length() > 24) {
                due("text()", x.text(), -1);
                return;
            }
            text = buffer;
            due("text()", x.text(), text.length());
            buffer = "";
        }

        private boolean matches(int p) {
            return ok(p) && fits(p, 0, text.length());
        }

        private boolean fits(int p, int i, int j) {
            return new Fit(patterns[p], text.substring(i, j)).fits();
        }

        private int find(int p, int from) {
            if (!ok(p) || from < 0 || from > text.length()) {
                return -1;
            }
            for (int i = from; i <= text.length(); i++) {
                for (int j = text.length(); j >= i; j--) {
                    if (fits(p, i, j)) {
                        return 100 * i + j;
                    }
                }
            }
            return -2;
        }

        private int count(int p) {
            if (!ok(p)) {
                return -1;
            }
            int found = 0;
            int from = 0;
            while (from <= text.length() && find(p, from) >= 0) {
                int part = find(p, from);
                found++;
                from = part / 100 == part % 100 ? part % 100 + 1 : part % 100;
            }
            return found;
        }

        private int earliest(int p) {
            if (!ok(p)) {
                return -1;
            }
            for (int j = 0; j <= text.length(); j++) {
                for (int i = 0; i <= j; i++) {
                    if (fits(p, i, j)) {
                        return j;
                    }
                }
            }
            return -2;
        }

        private int shortest(int p, int n) {
            if (!ok(p) || n < 0 || n > 4) {
                return -1;
            }
            for (String w : words(n)) {
                if (new Fit(patterns[p], w).fits()) {
                    word = w;
                    return w.length();
                }
            }
            return -2;
        }

        private int difference(int n) {
            if (n < 0 || n > 4) {
                return -1;
            }
            for (String w : words(n)) {
                if (new Fit(patterns[0], w).fits() != new Fit(patterns[1], w).fits()) {
                    word = w;
                    return w.length();
                }
            }
            return -2;
        }

        private static List<String> words(int n) {
            List<String> all = new ArrayList<>(List.of(""));
            for (int k = 0; k < all.size(); k++) {
                for (String letter : new String[] {"a", "b", "c"}) {
                    if (all.get(k).length() < n) {
                        all.add(all.get(k) + letter);
                    }
                }
            }
            return all;
        }
    }

    /** Makes patterns, most of them right ones. */
    private static final class Maker {
        private final Random random;

        Maker(Random random) {
            this.random = random;
        }

        String pattern() {
            if (random.nextInt(10) == 0) {
                return randomBuffer(random, random.nextInt(8));
            }
            StringBuilder made = new StringBuilder(union(2 + random.nextInt(2)));
            if (made.length() > 40 && random.nextInt(8) != 0) {
                return pattern();
            }
            if (random.nextInt(8) == 0) {
                char sign = SIGNS.charAt(random.nextInt(SIGNS.length()));
                made.insert(random.nextInt(made.length() + 1), sign);
            }
            if (random.nextInt(12) == 0 && made.length() > 0) {
                made.deleteCharAt(random.nextInt(made.length()));
            }
            return made.toString();
        }

        private String union(int depth) {
            String made = intersection(depth);
            return random.nextInt(3) == 0 ? made + "|" + intersection(depth) : made;
        }

        private String intersection(int depth) {
            String made = row(depth);
            return random.nextInt(4) == 0 ? made + "&" + row(depth) : made;
        }

        private String row(int depth) {
            StringBuilder made = new StringBuilder();
            for (int k = random.nextInt(4); k > 0; k--) {
                made.append(piece(depth));
            }
            return made.toString();
        }

        private String piece(int depth) {
            if (random.nextInt(6) == 0) {
                return "~" + piece(depth);
            }
            String made = atom(depth);
            while (random.nextInt(5) < 2) {
                made += mark();
            }
            return made;
        }

        private String mark() {
            int m = random.nextInt(10) == 0 ? random.nextInt(10) : random.nextInt(3);
            String[] marks = {"*", "+", "?", "{" + m + "}", "{" + m + ",}",
                "{" + m + "," + (m + random.nextInt(10 - m)) + "}"};
            return marks[random.nextInt(marks.length)];
        }

        private String atom(int depth) {
            switch (random.nextInt(6)) {
                case 0: case 1:
                    return depth > 0 ? "(" + union(depth - 1) + ")" : "a";
                case 2:
                    return ".";
                case 3:
                    return classOf();
                default:
                    return String.valueOf("abc".charAt(random.nextInt(3)));
            }
        }

        private String classOf() {
            StringBuilder made = new StringBuilder(random.nextInt(3) == 0 ? "[^" : "[");
            for (int k = 1 + random.nextInt(3); k > 0; k--) {
                made.append("aabbcd-^.".charAt(random.nextInt(9)));
                made.append(random.nextInt(3) == 0 ? "-" : "");
            }
            return made.append("]").toString();
        }
    }

    /** Where each kind of thing can end that begins at a place, by the document's sentences. */
    private static final class Grammar {
        private static final String[] HEADS = {"", "a", "]", "~]", "a]", "}", "0}", "9}"};
        private final String s;
        private final Map<String, TreeSet<Integer>> known = new HashMap<>();

        Grammar(String s) {
            this.s = s;
        }

        static boolean isPattern(String s) {
            return new Grammar(s).ends("union", 0).contains(s.length());
        }

        /** The length of the longest prefix with which a pattern goes on; -1 when the whole is one. */
        static int wrongPlace(String s) {
            if (isPattern(s)) {
                return -1;
            }
            int place = 0;
            while (place < s.length() && goesOn(s.substring(0, place + 1))) {
                place++;
            }
            return place;
        }

        private static boolean goesOn(String prefix) {
            int open = (int) prefix.chars().filter(c -> c == '(').count();
            for (String head : HEADS) {
                for (int closing = 0; closing <= open; closing++) {
                    if (isPattern(prefix + head + ")".repeat(closing))) {
                        return true;
                    }
                }
            }
            return false;
        }

        TreeSet<Integer> ends(String kind, int i) {
            TreeSet<Integer> ends = known.get(kind + i);
            if (ends == null) {
                ends = find(kind, i);
                known.put(kind + i, ends);
            }
            return ends;
        }

        private TreeSet<Integer> find(String kind, int i) {
            switch (kind) {
                case "union":
                    return list("intersection", '|', i);
                case "intersection":
                    return list("row", '&', i);
                case "row":
                    return many("piece", one(i));
                case "piece":
                    TreeSet<Integer> piece = many("mark", ends("atom", i));
                    if (is(i, "~")) {
                        piece.addAll(ends("piece", i + 1));
                    }
                    return piece;
                case "mark":
                    return mark(i);
                case "atom":
                    return atom(i);
                default:
                    return item(i);
            }
        }

        private static TreeSet<Integer> one(int i) {
            return new TreeSet<>(List.of(i));
        }

        private boolean is(int i, String among) {
            return i < s.length() && among.indexOf(s.charAt(i)) >= 0;
        }

        private TreeSet<Integer> list(String kind, char between, int i) {
            TreeSet<Integer> ends = new TreeSet<>(ends(kind, i));
            for (Integer end = ends.isEmpty() ? null : ends.first(); end != null; end = ends.higher(end)) {
                if (is(end, String.valueOf(between))) {
                    ends.addAll(ends(kind, end + 1));
                }
            }
            return ends;
        }

        private TreeSet<Integer> many(String kind, TreeSet<Integer> from) {
            TreeSet<Integer> ends = new TreeSet<>(from);
            for (Integer end = ends.isEmpty() ? null : ends.first(); end != null; end = ends.higher(end)) {
                ends.addAll(ends(kind, end));
            }
            return ends;
        }

        private TreeSet<Integer> mark(int i) {
            TreeSet<Integer> ends = new TreeSet<>();
            for (int j = i + 1; j <= Math.min(s.length(), i + 5); j++) {
                String mark = s.substring(i, j);
                boolean ordered = mark.length() < 5 || mark.charAt(1) <= mark.charAt(3);
                if (mark.matches("[*+?]|\\{[0-9](,[0-9]?)?\\}") && ordered) {
                    ends.add(j);
                }
            }
            return ends;
        }

        private TreeSet<Integer> atom(int i) {
            TreeSet<Integer> ends = new TreeSet<>();
            if (is(i, "(")) {
                for (int end : ends("union", i + 1)) {
                    if (is(end, ")")) {
                        ends.add(end + 1);
                    }
                }
            } else if (is(i, "[")) {
                int begin = is(i + 1, "^") ? i + 2 : i + 1;
                for (int end : many("item", ends("item", begin))) {
                    if (is(end, "]")) {
                        ends.add(end + 1);
                    }
                }
            } else if (i < s.length() && !is(i, "|&~*+?{}()[]")) {
                ends.add(i + 1);
            }
            return ends;
        }

        private TreeSet<Integer> item(int i) {
            TreeSet<Integer> ends = new TreeSet<>();
            if (i < s.length() && !is(i, "]")) {
                if (!is(i + 1, "-") || i + 2 >= s.length() || is(i + 2, "]")) {
                    ends.add(i + 1);
                } else if (s.charAt(i) <= s.charAt(i + 2)) {
                    ends.add(i + 3);
                }
            }
            return ends;
        }
    }

    /** Whether a text fits a pattern that is right, by cutting both at every place. */
    private static final class Fit {
        /** Many texts are judged by one pattern. */
        private static final Map<String, Grammar> GRAMMARS = new HashMap<>();
        private final String s;
        private final String text;
        private final Grammar grammar;
        private final Map<String, Boolean> known = new HashMap<>();

        Fit(String pattern, String text) {
            this.s = pattern;
            this.text = text;
            this.grammar = GRAMMARS.computeIfAbsent(pattern, Grammar::new);
        }

        boolean fits() {
            return union(0, s.length(), 0, text.length());
        }

        private boolean union(int a, int b, int i, int j) {
            String key = a + " " + b + " " + i + " " + j;
            Boolean answer = known.get(key);
            if (answer == null) {
                answer = anyIntersection(a, b, i, j);
                known.put(key, answer);
            }
            return answer;
        }

        private boolean anyIntersection(int a, int b, int i, int j) {
            int begin = a;
            for (int cut : cuts(a, b, '|')) {
                if (allRows(begin, cut, i, j)) {
                    return true;
                }
                begin = cut + 1;
            }
            return false;
        }

        private boolean allRows(int a, int b, int i, int j) {
            int begin = a;
            for (int cut : cuts(a, b, '&')) {
                if (!row(begin, cut, i, j)) {
                    return false;
                }
                begin = cut + 1;
            }
            return true;
        }

        /** The places of a sign outside of parentheses and classes, and the end. */
        private List<Integer> cuts(int a, int b, char sign) {
            List<Integer> cuts = new ArrayList<>();
            int at = a;
            while (at < b) {
                if (s.charAt(at) == sign) {
                    cuts.add(at);
                }
                at = s.charAt(at) == '(' || s.charAt(at) == '[' ? grammar.ends("atom", at).first() : at + 1;
            }
            cuts.add(b);
            return cuts;
        }

        private boolean row(int a, int b, int i, int j) {
            if (a == b) {
                return i == j;
            }
            String key = "row " + a + " " + b + " " + i + " " + j;
            if (!known.containsKey(key)) {
                int end = grammar.ends("piece", a).last();
                boolean answer = false;
                for (int cut = i; cut <= j && !answer; cut++) {
                    answer = piece(a, end, i, cut) && row(end, b, cut, j);
                }
                known.put(key, answer);
            }
            return known.get(key);
        }

        private boolean piece(int a, int b, int i, int j) {
            if (s.charAt(a) == '~') {
                return !piece(a + 1, b, i, j);
            }
            int end = grammar.ends("atom", a).first();
            List<Integer> marks = new ArrayList<>(List.of(end));
            while (marks.get(marks.size() - 1) < b) {
                marks.add(grammar.ends("mark", marks.get(marks.size() - 1)).first());
            }
            return marked(a, marks, marks.size() - 1, i, j);
        }

        /** The atom with its first so many marks. */
        private boolean marked(int a, List<Integer> marks, int used, int i, int j) {
            if (used == 0) {
                return atom(a, marks.get(0), i, j);
            }
            String mark = s.substring(marks.get(used - 1), marks.get(used));
            int low = mark.equals("+") ? 1 : mark.length() == 1 ? 0 : mark.charAt(1) - '0';
            boolean endless = mark.equals("*") || mark.equals("+") || mark.endsWith(",}");
            // More parts than characters: the rest are empty, and those above low can be left out.
            int high = endless ? low + j - i : mark.equals("?") ? 1 : mark.charAt(mark.length() - 2) - '0';
            for (int times = low; times <= high; times++) {
                if (parts(a, marks, used, times, i, j)) {
                    return true;
                }
            }
            return false;
        }

        private boolean parts(int a, List<Integer> marks, int used, int times, int i, int j) {
            if (times == 0) {
                return i == j;
            }
            String key = "parts " + a + " " + used + " " + times + " " + i + " " + j;
            if (!known.containsKey(key)) {
                boolean answer = false;
                for (int cut = i; cut <= j && !answer; cut++) {
                    answer = marked(a, marks, used - 1, i, cut) && parts(a, marks, used, times - 1, cut, j);
                }
                known.put(key, answer);
            }
            return known.get(key);
        }

        private boolean atom(int a, int b, int i, int j) {
            if (s.charAt(a) == '(') {
                return union(a + 1, b - 1, i, j);
            }
            if (j != i + 1) {
                return false;
            }
            char c = text.charAt(i);
            if (s.charAt(a) == '[') {
                boolean negated = s.charAt(a + 1) == '^';
                return inItems(negated ? a + 2 : a + 1, b - 1, c) != negated;
            }
            return s.charAt(a) == '.' || s.charAt(a) == c;
        }

        private boolean inItems(int a, int b, char c) {
            boolean in = false;
            for (int at = a; at < b; at = grammar.ends("item", at).first()) {
                int last = grammar.ends("item", at).first() - 1;
                in |= s.charAt(at) <= c && c <= s.charAt(last);
            }
            return in;
        }
    }
}

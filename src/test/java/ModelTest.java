import java.util.ArrayDeque;
import java.util.ArrayList;
import java.util.Comparator;
import java.util.Deque;
import java.util.HashMap;
import java.util.List;
import java.util.Map;
import java.util.Random;
import java.util.Set;
import java.util.TreeSet;

/**
 * Random runs of calls (always the same ones) on the class and on a slow model that is written from the document
 * with strings and sets, and every short line on both: every answer must be the same. Arguments, if any: how many
 * runs, another seed, and how long the short lines may be.
 */
public final class ModelTest {
    private static final int RUNS = 400;
    private static final int CALLS = 512;
    private static final int SEED = 20261115;
    private static final int LONGEST_OF_ALL_LINES = 3;
    private static final String[] LINES = {
        "(=.-.)%", "(=.-.)*", "(=(.-.)b.)%", "(-a+b)*", "(^=.b.)%", "(a|-b+a)*", "(=a.|b-.)%", "(-.)", "a|-b+a",
        "^(a|ab)(c|-b+c)", "(a*b|c)%", "((=.%c)b)%", "(=.-.*b)%", "(=.(-.b)*c)%", "(+aa+b)*", "-a-a-a-a-a-a-a", "aaaaaaa",
        "(=(a|-b+a)c.)%", "((a|b)=.)%", "(=a|b|c)%", "((=.*b)%c)*", "^.^.^..", "(^.=.)%", "=(.*)", "((a*))", "-.*",
        "(.|-.-.b)", "(a.|b.-c)%", "(+c.-.)*", "a|-b", "(-a+b|b)%", "(a(=.)*b|c)%", "(-c=.|=a=b)%", ".*", ".%"
    };

    // ---- texts ----

    private static final List<String> TEXTS = new ArrayList<>();
    private static final Map<String, Integer> NUMBERS = new HashMap<>();

    private static void makeTexts() {
        TEXTS.add("");
        for (int i = 0; TEXTS.get(i).length() < 6; i++) {
            for (String letter : new String[] {"a", "b", "c"}) {
                TEXTS.add(TEXTS.get(i) + letter);
            }
        }
        TEXTS.sort(Comparator.comparingInt(String::length).thenComparing(Comparator.naturalOrder()));
        for (int i = 0; i < TEXTS.size(); i++) {
            NUMBERS.put(TEXTS.get(i), i);
        }
    }

    private static int number(String text) {
        return text.length() > 6 ? -2 : NUMBERS.get(text);
    }

    private static Set<String> newSet() {
        return new TreeSet<>(Comparator.comparingInt(String::length).thenComparing(Comparator.naturalOrder()));
    }

    // ---- parts ----

    private static final class Node {
        char kind;
        char letter;
        int place;
        int end;
        int depth;
        Node p;
        Node q;
        Set<String> sources = newSet();
        Set<String> views = newSet();

        Node(char kind, Node p, Node q, int place, int end) {
            this.kind = kind;
            this.p = p;
            this.q = q;
            this.place = place;
            this.end = end;
        }

        boolean repeats() {
            return kind == '*' || kind == '%';
        }
    }

    // A line is read by trying every way to part it, which the grammar leaves one way.

    private static Node sum(String line, int from, int to, int open) {
        for (int bar = to - 1; bar > from; bar--) {
            if (line.charAt(bar) == '|') {
                Node q = chain(line, bar + 1, to, open);
                Node p = q == null ? null : sum(line, from, bar, open);
                if (p != null) {
                    return new Node('|', p, q, bar, q.end);
                }
            }
        }
        return chain(line, from, to, open);
    }

    private static Node chain(String line, int from, int to, int open) {
        for (int cut = to - 1; cut > from; cut--) {
            Node q = piece(line, cut, to, open);
            Node p = q == null ? null : chain(line, from, cut, open);
            if (p != null) {
                return new Node('&', p, q, cut, q.end);
            }
        }
        return piece(line, from, to, open);
    }

    private static Node piece(String line, int from, int to, int open) {
        if (to > from && (line.charAt(to - 1) == '*' || line.charAt(to - 1) == '%')) {
            Node p = atom(line, from, to - 1, open);
            return p == null ? null : new Node(line.charAt(to - 1), p, null, to - 1, to - 1);
        }
        return atom(line, from, to, open);
    }

    private static Node atom(String line, int from, int to, int open) {
        if (to <= from) {
            return null;
        }
        String all = line.substring(from, to);
        char sign = all.charAt(0);
        if (all.matches("[abc.]|-[abc.]|\\+[abc]")) {
            Node node = new Node(all.length() == 1 ? 'l' : sign, null, null, from, to - 1);
            node.letter = all.charAt(all.length() - 1);
            return node;
        }
        if (sign == '=') {
            Node p = atom(line, from + 1, to, open);
            return p == null ? null : new Node('=', p, null, from, p.end);
        }
        if (sign == '^') {
            for (int cut = from + 2; cut < to; cut++) {
                Node p = atom(line, from + 1, cut, open);
                Node q = p == null ? null : atom(line, cut, to, open);
                if (q != null) {
                    return new Node('^', p, q, from, q.end);
                }
            }
            return null;
        }
        if (sign == '(' && line.charAt(to - 1) == ')' && open < 4) {
            return sum(line, from + 1, to - 1, open + 1);
        }
        return null;
    }

    /** The first place that can't stand there, by a stack of what may still come: S C P A and their tails. */
    private static int firstWrongPlace(String line) {
        Deque<Character> due = new ArrayDeque<>();
        due.push('S');
        int open = 0;
        for (int i = 0; i < line.length(); i++) {
            char sign = line.charAt(i);
            while (true) {
                if (due.isEmpty()) {
                    return i;
                }
                char top = due.pop();
                boolean starts = "abc.-+^=(".indexOf(sign) >= 0;
                if (top == 'S') { due.push('s'); due.push('C'); continue; }
                if (top == 'C') { due.push('c'); due.push('P'); continue; }
                if (top == 'P') { due.push('r'); due.push('A'); continue; }
                if (top == 's') { if (sign == '|') { due.push('s'); due.push('C'); break; } continue; }
                if (top == 'c') { if (starts) { due.push('c'); due.push('P'); } continue; }
                if (top == 'r') { if (sign == '*' || sign == '%') { break; } continue; }
                if (top == 'L') { if ("abc".indexOf(sign) < 0) { return i; } break; }
                if (top == 'D') { if ("abc.".indexOf(sign) < 0) { return i; } break; }
                if (top == ')') { if (sign != ')') { return i; } open--; break; }
                if (!starts) { return i; }
                if (sign == '-') { due.push('D'); }
                if (sign == '+') { due.push('L'); }
                if (sign == '=') { due.push('A'); }
                if (sign == '^') { due.push('A'); due.push('A'); }
                if (sign == '(') {
                    if (open == 4) { return i; }
                    open++;
                    due.push(')');
                    due.push('S');
                }
                break;
            }
        }
        return line.length();
    }

    private static void collect(Node node, int depth, List<Node> all) {
        if (node == null) {
            return;
        }
        node.depth = depth;
        all.add(node);
        collect(node.p, depth + 1, all);
        collect(node.q, depth + 1, all);
    }

    // ---- sources and views ----

    private static Set<String> joined(Set<String> fronts, Set<String> backs, Set<String> twice) {
        Set<String> result = newSet();
        for (String front : fronts) {
            for (String back : backs) {
                if (front.length() + back.length() <= 6 && !result.add(front + back)) {
                    twice.add(front + back);
                }
            }
        }
        return result;
    }

    private static Set<String> repeated(Set<String> parts, Set<String> twice) {
        Set<String> result = newSet();
        Map<String, Integer> ways = new HashMap<>();
        for (String text : TEXTS) {
            int count = text.isEmpty() ? 1 : 0;
            for (int cut = 0; cut < text.length(); cut++) {
                count += parts.contains(text.substring(cut)) ? ways.get(text.substring(0, cut)) : 0;
            }
            if (text.isEmpty() && parts.contains("")) {
                count++;
            }
            ways.put(text, count);
            if (count > 0) {
                result.add(text);
            }
            if (count > 1) {
                twice.add(text);
            }
        }
        return result;
    }

    private static final class Built {
        Node whole;
        int answer;
        int why;
        int witness = -1;
    }

    private static final Map<String, Built> BUILT = new HashMap<>();

    private static Built build(String line) {
        Built built = BUILT.get(line);
        if (built == null) {
            built = buildAnew(line);
            BUILT.put(line, built);
        }
        return built;
    }

    private static Built buildAnew(String line) {
        Built built = new Built();
        built.whole = sum(line, 0, line.length(), 0);
        if (built.whole == null) {
            built.why = 1;
            built.answer = firstWrongPlace(line) + 1;
            return built;
        }
        List<Node> all = new ArrayList<>();
        collect(built.whole, 0, all);
        all.sort(Comparator.<Node>comparingInt(n -> n.end).thenComparingInt(n -> -n.depth));
        for (Node node : all) {
            settle(node, built);
            if (built.why != 0) {
                built.answer = node.place + 1;
                return built;
            }
        }
        return built;
    }

    private static void blame(Built built, int why, Set<String> texts) {
        if (built.why == 0 && !texts.isEmpty()) {
            built.why = why;
            built.witness = number(texts.iterator().next());
        }
    }

    private static void settle(Node node, Built built) {
        Set<String> twiceSource = newSet();
        Set<String> twiceView = newSet();
        switch (node.kind) {
            case 'l':
            case '-':
                for (String letter : node.letter == '.' ? List.of("a", "b", "c") : List.of("" + node.letter)) {
                    node.sources.add(letter);
                    node.views.add(node.kind == 'l' ? letter : "");
                }
                break;
            case '+':
                node.sources.add("");
                node.views.add("" + node.letter);
                break;
            case '=':
                node.sources.addAll(node.p.sources);
                node.views.addAll(node.p.views);
                break;
            case '&':
            case '^':
                node.sources = joined(node.p.sources, node.q.sources, twiceSource);
                node.views = node.kind == '&' ? joined(node.p.views, node.q.views, twiceView)
                    : joined(node.q.views, node.p.views, twiceView);
                blame(built, 2, twiceSource);
                blame(built, 3, twiceView);
                break;
            case '|':
                twiceSource.addAll(node.p.sources);
                twiceSource.retainAll(node.q.sources);
                blame(built, 6, twiceSource);
                node.sources.addAll(node.p.sources);
                node.sources.addAll(node.q.sources);
                node.views.addAll(node.p.views);
                node.views.addAll(node.q.views);
                break;
            default:
                node.sources = repeated(node.p.sources, twiceSource);
                node.views = repeated(node.p.views, twiceView);
                blame(built, 4, twiceSource);
                blame(built, 5, twiceView);
                break;
        }
    }

    // ---- showing, creating, putting, keys ----

    private static String[] two(String text, Set<String> fronts, Set<String> backs) {
        for (int cut = 0; cut <= text.length(); cut++) {
            if (fronts.contains(text.substring(0, cut)) && backs.contains(text.substring(cut))) {
                return new String[] {text.substring(0, cut), text.substring(cut)};
            }
        }
        throw new AssertionError("no way to part " + text);
    }

    /** The views for P and for Q. */
    private static String[] twoViews(Node node, String view) {
        if (node.kind == '&') {
            return two(view, node.p.views, node.q.views);
        }
        String[] crossed = two(view, node.q.views, node.p.views);
        return new String[] {crossed[1], crossed[0]};
    }

    private static List<String> parts(String text, Set<String> parts) {
        if (text.isEmpty()) {
            return new ArrayList<>();
        }
        for (int cut = 0; cut < text.length(); cut++) {
            if (parts.contains(text.substring(cut))) {
                List<String> before = parts(text.substring(0, cut), parts);
                if (before != null) {
                    before.add(text.substring(cut));
                    return before;
                }
            }
        }
        return null;
    }

    private static String show(Node node, String source) {
        switch (node.kind) {
            case 'l': return source;
            case '-': return "";
            case '+': return "" + node.letter;
            case '=': return show(node.p, source);
            case '|': return show(node.p.sources.contains(source) ? node.p : node.q, source);
            case '&':
            case '^':
                String[] two = two(source, node.p.sources, node.q.sources);
                String p = show(node.p, two[0]);
                String q = show(node.q, two[1]);
                return node.kind == '&' ? p + q : q + p;
            default:
                StringBuilder all = new StringBuilder();
                for (String part : parts(source, node.p.sources)) {
                    all.append(show(node.p, part));
                }
                return all.toString();
        }
    }

    private static String create(Node node, String view) {
        switch (node.kind) {
            case 'l': return view;
            case '-': return node.letter == '.' ? "a" : "" + node.letter;
            case '+': return "";
            case '=': return create(node.p, view);
            case '|': return create(node.p.views.contains(view) ? node.p : node.q, view);
            case '&':
            case '^':
                String[] two = twoViews(node, view);
                return create(node.p, two[0]) + create(node.q, two[1]);
            default:
                StringBuilder all = new StringBuilder();
                for (String part : parts(view, node.p.views)) {
                    all.append(create(node.p, part));
                }
                return all.toString();
        }
    }

    private static String key(Node node, String view) {
        switch (node.kind) {
            case '=': return view;
            case '|': return key(node.p.views.contains(view) ? node.p : node.q, view);
            case '&':
            case '^':
                String[] two = twoViews(node, view);
                return key(node.p, two[0]) + key(node.q, two[1]);
            case '*':
            case '%':
                StringBuilder all = new StringBuilder();
                for (String part : parts(view, node.p.views)) {
                    all.append(key(node.p, part));
                }
                return all.toString();
            default: return "";
        }
    }

    /** For each part of the view the place of the source's part, or -1. */
    private static List<Integer> origins(Node node, String source, String view) {
        List<String> views = parts(view, node.p.views);
        List<String> sources = parts(source, node.p.sources);
        List<Integer> result = new ArrayList<>();
        for (int k = 0; k < views.size(); k++) {
            if (node.kind == '*') {
                result.add(k < sources.size() ? k : -1);
                continue;
            }
            String key = key(node.p, views.get(k));
            int earlier = 0;
            for (int i = 0; i < k; i++) {
                earlier += key(node.p, views.get(i)).equals(key) ? 1 : 0;
            }
            int found = -1;
            for (int i = 0; i < sources.size() && found < 0; i++) {
                if (key(node.p, show(node.p, sources.get(i))).equals(key)) {
                    found = earlier == 0 ? i : -1;
                    earlier--;
                }
            }
            result.add(found);
        }
        return result;
    }

    private static String put(Node node, String source, String view) {
        switch (node.kind) {
            case 'l': return view;
            case '-': return source;
            case '+': return "";
            case '=': return put(node.p, source, view);
            case '|':
                boolean isP = node.p.sources.contains(source);
                Node own = isP ? node.p : node.q;
                Node other = isP ? node.q : node.p;
                return own.views.contains(view) ? put(own, source, view) : create(other, view);
            case '&':
            case '^':
                String[] sources = two(source, node.p.sources, node.q.sources);
                String[] views = twoViews(node, view);
                return put(node.p, sources[0], views[0]) + put(node.q, sources[1], views[1]);
            default:
                List<String> sourceParts = parts(source, node.p.sources);
                List<String> viewParts = parts(view, node.p.views);
                List<Integer> origins = origins(node, source, view);
                StringBuilder all = new StringBuilder();
                for (int k = 0; k < viewParts.size(); k++) {
                    int origin = origins.get(k);
                    all.append(origin < 0 ? create(node.p, viewParts.get(k))
                        : put(node.p, sourceParts.get(origin), viewParts.get(k)));
                }
                return all.toString();
        }
    }

    // ---- the model's calls; an exception is told by its name ----

    private static final class Model {
        String line = "";
        Node program;
        int why = 0;
        int witness = -1;
        String kept;
        List<Integer> from = List.of();
        Set<String> noted;

        Object call(String name, int x) {
            switch (name) {
                case "type": return type(x);
                case "compile": return compile();
                case "why": return why;
                case "witness": return witness;
                case "from": return x >= 0 && x < from.size() ? from.get(x) : -1;
                default: break;
            }
            if (program == null || name.equals("put") && kept == null || name.equals("differs") && noted == null) {
                return "IllegalStateException";
            }
            if (name.equals("many")) {
                return x == 0 ? (Object) program.sources.size() : x == 1 ? program.views.size()
                    : "IllegalArgumentException";
            }
            if (name.equals("note")) {
                noted = program.views;
                return noted.size();
            }
            if (name.equals("differs")) {
                return differs();
            }
            if (x < 0 || x > 1092) {
                return "IndexOutOfBoundsException";
            }
            return textCall(name, TEXTS.get(x));
        }

        private Object textCall(String name, String text) {
            boolean source = program.sources.contains(text);
            boolean view = program.views.contains(text);
            switch (name) {
                case "isSource": return source;
                case "isView": return view;
                case "get": return source ? number(show(program, text)) : -1;
                case "keep":
                    boolean fits = source && number(show(program, text)) >= 0;
                    kept = fits ? text : kept;
                    return fits;
                case "create":
                    from = List.of();
                    return view ? number(ModelTest.create(program, text)) : -1;
                case "key": return view ? number(ModelTest.key(program, text)) : -1;
                default:
                    int answer = view ? number(ModelTest.put(program, kept, text)) : -1;
                    from = answer >= 0 && program.repeats() ? origins(program, kept, text) : List.of();
                    return answer;
            }
        }

        private Object type(int four) {
            StringBuilder more = new StringBuilder();
            int rest = four;
            while (rest != 0 && (rest & 255) != 0) {
                int code = rest & 255;
                if (code < 32 || code > 126) {
                    return "IllegalArgumentException";
                }
                more.append((char) code);
                rest >>>= 8;
            }
            if (line.length() + more.length() > 16) {
                return false;
            }
            line += more;
            return true;
        }

        private Object compile() {
            Built built = build(line);
            line = "";
            why = built.why;
            witness = built.witness;
            if (why == 0) {
                program = built.whole;
                kept = null;
                from = List.of();
            }
            return built.answer;
        }

        private Object differs() {
            for (int i = 0; i < TEXTS.size(); i++) {
                if (program.views.contains(TEXTS.get(i)) != noted.contains(TEXTS.get(i))) {
                    return i;
                }
            }
            return -1;
        }
    }

    private static Object real(TwoWayTexts x, String name, int n) {
        try {
            switch (name) {
                case "type": return x.type(n);
                case "compile": return x.compile();
                case "why": return x.why();
                case "witness": return x.witness();
                case "from": return x.from(n);
                case "many": return x.many(n);
                case "note": return x.note();
                case "differs": return x.differs();
                case "isSource": return x.isSource(n);
                case "isView": return x.isView(n);
                case "get": return x.get(n);
                case "keep": return x.keep(n);
                case "create": return x.create(n);
                case "key": return x.key(n);
                default: return x.put(n);
            }
        } catch (RuntimeException e) {
            return e.getClass().getSimpleName();
        }
    }

    // ---- random runs ----

    private static final Random RANDOM = new Random();

    private static String randomAtom(int room) {
        int pick = RANDOM.nextInt(room > 4 ? 14 : room > 2 ? 10 : room > 1 ? 8 : 4);
        String letter = "" + "abc".charAt(RANDOM.nextInt(3));
        switch (pick) {
            case 0: case 1: case 2: return letter;
            case 3: return ".";
            case 4: case 5: return "-" + (RANDOM.nextBoolean() ? letter : ".");
            case 6: return "+" + letter;
            case 7: return "=" + randomAtom(room - 1);
            case 8: return "^" + randomAtom(room / 2) + randomAtom(room / 2);
            case 9: return "=.";
            default: return "(" + randomSum(room - 2) + ")";
        }
    }

    private static String randomSum(int room) {
        StringBuilder all = new StringBuilder();
        int pieces = 1 + RANDOM.nextInt(4);
        for (int i = 0; i < pieces && (all.length() < room || i == 0); i++) {
            if (i > 0 && RANDOM.nextInt(3) == 0) {
                all.append('|');
            }
            all.append(randomAtom(Math.max(1, room - all.length())));
            if (RANDOM.nextInt(4) == 0) {
                all.append(RANDOM.nextBoolean() ? '*' : '%');
            }
        }
        return all.toString();
    }

    private static String randomLine() {
        int kind = RANDOM.nextInt(12);
        if (kind < 4) {
            return LINES[RANDOM.nextInt(LINES.length)];
        }
        String line = randomSum(14);
        if (kind < 8) {
            line = "(" + line + ")" + (RANDOM.nextInt(3) == 0 ? '*' : '%');
        }
        if (kind == 8) {
            int at = RANDOM.nextInt(line.length() + 1);
            line = line.substring(0, at) + "abc.-+^=()|*% d".charAt(RANDOM.nextInt(15)) + line.substring(at);
        }
        if (kind == 9) {
            line = line.substring(0, RANDOM.nextInt(line.length() + 1));
        }
        return line.length() > 16 ? line.substring(0, 16) : line;
    }

    private static int pack(String four) {
        int result = 0;
        for (int i = 0; i < four.length(); i++) {
            result |= four.charAt(i) << 8 * i;
        }
        return result;
    }

    private static int wrong = 0;
    private static int goodPrograms = 0;
    private static int[] whys = new int[7];

    private static final class Run {
        final TwoWayTexts real = new TwoWayTexts();
        final Model model = new Model();
        final StringBuilder story = new StringBuilder();
        int calls = 0;

        Object call(String name, int x) {
            Object want = model.call(name, x);
            Object got = real(real, name, x);
            calls++;
            story.append(name).append('(').append(x).append(") = ").append(got).append('\n');
            if (!want.equals(got)) {
                wrong++;
                if (wrong <= 3) {
                    System.out.println(story + "   due is " + want);
                }
            }
            return got;
        }

        void compileLine(String line) {
            story.append("line ").append(line).append('\n');
            for (int i = 0; i < line.length(); i += 4) {
                call("type", pack(line.substring(i, Math.min(line.length(), i + 4))));
            }
            Object answer = call("compile", 0);
            call("why", 0);
            call("witness", 0);
            whys[model.why]++;
            goodPrograms += answer.equals(0) ? 1 : 0;
        }

        int pick(Set<String> set) {
            if (set == null || set.isEmpty() || RANDOM.nextInt(8) == 0) {
                return RANDOM.nextInt(16) == 0 ? RANDOM.nextInt(3000) - 1000 : RANDOM.nextInt(1093);
            }
            int at = RANDOM.nextInt(RANDOM.nextBoolean() ? set.size() : Math.min(set.size(), 60));
            return number(new ArrayList<>(set).get(at));
        }

        void randomCall() {
            Set<String> sources = model.program == null ? null : model.program.sources;
            Set<String> views = model.program == null ? null : model.program.views;
            int kind = RANDOM.nextInt(40);
            if (kind < 5) {
                call("keep", pick(sources));
            } else if (kind < 14) {
                call("put", pick(views));
                for (int k = 0; k < 3; k++) {
                    call("from", k);
                }
            } else if (kind < 18) {
                call("create", pick(views));
            } else if (kind < 22) {
                call("get", pick(sources));
            } else if (kind < 26) {
                call("key", pick(views));
            } else if (kind < 28) {
                call("from", RANDOM.nextInt(9) - 1);
            } else if (kind < 30) {
                call(RANDOM.nextBoolean() ? "isSource" : "isView", RANDOM.nextInt(1100) - 3);
            } else if (kind < 32) {
                call("many", RANDOM.nextInt(12) == 0 ? RANDOM.nextInt(7) - 3 : RANDOM.nextInt(2));
            } else if (kind < 34) {
                call(RANDOM.nextBoolean() ? "note" : "differs", 0);
            } else if (kind < 35) {
                call(RANDOM.nextBoolean() ? "why" : "witness", 0);
            } else if (kind < 36 && RANDOM.nextInt(6) == 0) {
                call("type", RANDOM.nextInt());
            } else if (kind < 38) {
                compileLine(randomLine());
            }
        }
    }

    /** Every line of up to so many characters, with one that no line may have. */
    private static void everyShortLine(int longest) {
        List<String> lines = new ArrayList<>(List.of(""));
        for (int i = 0; i < lines.size(); i++) {
            String line = lines.get(i);
            Run run = new Run();
            run.compileLine(line);
            run.call("many", 0);
            run.call("many", 1);
            for (int text = 0; text < 13; text++) {
                run.call("get", text);
                run.call("create", text);
                run.call("key", text);
            }
            for (char sign : line.length() < longest ? "abc.-+^=()|*%d".toCharArray() : new char[0]) {
                lines.add(line + sign);
            }
        }
    }

    public static void main(String[] args) {
        makeTexts();
        everyShortLine(args.length > 2 ? Integer.parseInt(args[2]) : LONGEST_OF_ALL_LINES);
        int runs = args.length > 0 ? Integer.parseInt(args[0]) : RUNS;
        RANDOM.setSeed(args.length > 1 ? Integer.parseInt(args[1]) : SEED);
        for (int i = 0; i < runs; i++) {
            Run run = new Run();
            if (i % 10 != 0) {
                run.compileLine(i < LINES.length ? LINES[i] : randomLine());
            }
            // A round makes at most eight calls.
            while (run.calls <= CALLS - 8) {
                run.randomCall();
            }
        }
        System.out.println(runs + " runs, " + goodPrograms + " good programs, failures by why 1 .. 6: " + whys[1] + " "
            + whys[2] + " " + whys[3] + " " + whys[4] + " " + whys[5] + " " + whys[6]);
        System.out.println(wrong == 0 ? "all answers are as due" : wrong + " answers are not as due");
        if (wrong != 0) {
            System.exit(1);
        }
    }
}

/** What the document promises, promise by promise, with answers worked out by hand from its words. */
public final class PromiseTest extends Due {
    private static void dueTextExceptions(String name, TwoWayTexts ready, TextCall call) {
        dueThrownWithoutProgram(name, call);
        dueThrownForNoText(name, ready, call);
    }

    private static void newObject() {
        TwoWayTexts x = new TwoWayTexts();
        due("why()", x.why(), 0);
        due("witness()", x.witness(), NONE);
        dueFrom(x);
        dueThrown("many(0)", () -> x.many(0), STATE);
        dueThrown("note()", () -> x.note(), STATE);
        dueThrown("differs()", () -> x.differs(), STATE);
        dueThrown("put(0)", () -> x.put(0), STATE);
        due("compile of an empty line", x.compile(), 1);
        TwoWayTexts y = with("a");
        dueThrown("put with nothing kept", () -> y.put(1), STATE);
        dueThrown("differs with nothing noted", () -> y.differs(), STATE);
        due("another object's why()", new TwoWayTexts().why(), 0);
    }

    private static void type() {
        TwoWayTexts x = new TwoWayTexts();
        due("lowest byte first", x.type('a' | '|' << 8 | 'b' << 16), true);
        due("compile", x.compile(), 0);
        due("a is a source", x.isSource(1), true);
        due("no characters", x.type(0), true);
        due("bytes behind a 0", x.type('c' | 0 << 8 | 200 << 16 | 1 << 24), true);
        due("compile", x.compile(), 0);
        due("c is all", x.isSource(3) && x.many(0) == 1, true);

        typeLine(x, "abcabcabcabcab");
        due("three more than 14", x.type(four("abc")), false);
        due("two more than 14", x.type(four("c|")), true);
        due("one more than 16", x.type('a'), false);
        due("none more than 16", x.type(0), true);
        dueThrown("a wrong character at a full line", () -> x.type(31), ARGUMENT);
        due("the line of 16, which ends with |", x.compile(), 17);
        due("the line is empty again", x.type(four("a")), true);

        for (int code : new int[] {1, 31, 127, 128, 255}) {
            dueThrown("the code " + code, () -> x.type(code), ARGUMENT);
            dueThrown("the code " + code + " in the fourth place", () -> x.type(four("bbb") | code << 24), ARGUMENT);
        }
        dueThrown("-1", () -> x.type(-1), ARGUMENT);
        due("nothing was added by those", x.compile() == 0 && x.many(0) == 1 && x.isSource(1), true);
        due("the code 32", x.type(32), true);
        due("a space can't stand anywhere", x.compile(), 1);
        due("the code 126", x.type(126 << 8 | 'a'), true);
        due("a tilde neither", x.compile(), 2);
    }

    private static void compileOfNoProgram() {
        dueFailure("", 1, 1, NONE);
        dueFailure("d", 1, 1, NONE);
        dueFailure("|a", 1, 1, NONE);
        dueFailure("a|", 3, 1, NONE);
        dueFailure("a||b", 3, 1, NONE);
        dueFailure("*", 1, 1, NONE);
        dueFailure("a*%", 3, 1, NONE);
        dueFailure("a)", 2, 1, NONE);
        dueFailure("()", 2, 1, NONE);
        dueFailure("(a", 3, 1, NONE);
        dueFailure("(a|)", 4, 1, NONE);
        dueFailure("-", 2, 1, NONE);
        dueFailure("--a", 2, 1, NONE);
        dueFailure("-(a)", 2, 1, NONE);
        dueFailure("+.", 2, 1, NONE);
        dueFailure("^a", 3, 1, NONE);
        dueFailure("^a*b", 3, 1, NONE);
        dueFailure("=*", 2, 1, NONE);
        dueFailure("=", 2, 1, NONE);
        dueFailure("(((((a)))))", 5, 1, NONE);
        dueFailure("((((a)(b))))(", 14, 1, NONE);
        dueFailure("^((((a))))((((((", 15, 1, NONE);
        dueFailure("aaaaaaaaaaaaaaa(", 17, 1, NONE);
        // That it is no program is told before a part that isn't good.
        dueFailure("(a|a)(a*)*)", 11, 1, NONE);
    }

    private static void compileOfParts() {
        due("a piece of ^", compileLine(new TwoWayTexts(), "^ab*"), 0);
        due("four brackets twice", compileLine(new TwoWayTexts(), "((((a))))(((b)))"), 0);
        due("all signs", compileLine(new TwoWayTexts(), "^=(-a+b)=a|-.b%c"), 0);
        due("fifteen =", compileLine(new TwoWayTexts(), "===============a"), 0);
        due("seven ^", compileLine(new TwoWayTexts(), "^^^^^^^abcabcab"), 0);

        // From within, and those that end earlier first.
        dueFailure("(a|a)(b|b)", 3, 6, n("a"));
        dueFailure("a|a|b|b", 2, 6, n("a"));
        dueFailure("b|a|b|b", 4, 6, n("b"));
        dueFailure("a*a*|(b|b)", 3, 2, n("a"));
        dueFailure("^(b|b)(a*)*", 4, 6, n("b"));
        dueFailure("(b|a*a*)*", 6, 2, n("a"));
        dueFailure("a*b(a*)*a*", 8, 4, 0);
        dueFailure("a*(ba*)a*", 8, 2, n("ba"));
        // The sources are looked at first.
        dueFailure("(-a|-a-a)*", 10, 4, n("aa"));
        dueFailure("(+a|-a)*", 8, 4, 0);
        dueFailure("(a|ab)(c|bc)", 7, 2, n("abc"));

        TwoWayTexts x = with("(=.-.)%");
        x.keep(n("abba"));
        x.put(n("ba"));
        due("a line that fails", compileLine(x, "(a|a)"), 3);
        due("the program stays", x.many(0), 820);
        due("what from tells stays", x.from(0), 1);
        due("what is kept stays", x.put(n("ba")), n("baab"));
        due("the failed line is gone", compileLine(x, "a"), 0);
        due("the new program", x.many(0), 1);
        dueThrown("put into what another program kept", () -> x.put(1), STATE);
    }

    private static void why() {
        dueFailure("a(", 3, 1, NONE);
        dueFailure("(a|ab)(c|bc)", 7, 2, n("abc"));
        dueFailure("^(a|ab)(c|bc)", 1, 2, n("abc"));
        dueFailure("(a|-b)(a|-b)", 7, 3, n("a"));
        dueFailure("^(a|-b)(a|-b)", 1, 3, n("a"));
        dueFailure("(a|-bab)(c|bc)", 9, 3, n("abc"));
        dueFailure("(a|aa)*", 7, 4, n("aa"));
        dueFailure("(a|-baa)%", 9, 5, n("aa"));
        dueFailure("ab|.b", 3, 6, n("ab"));
        TwoWayTexts x = new TwoWayTexts();
        compileLine(x, "a|a");
        due("why behind a failure", x.why(), 6);
        typeLine(x, "a");
        due("why before the next compile", x.why(), 6);
        x.compile();
        due("why behind a good line", x.why(), 0);
        due("witness behind a good line", x.witness(), NONE);
        x.compile();
        due("why behind an empty line", x.why(), 1);
        // The views of both may be the same; so may a view have two ways when they are of different parts.
        due("one view of two parts", compileLine(new TwoWayTexts(), "a|-b+a"), 0);
        due("exchanged views are parted as they stand", compileLine(new TwoWayTexts(), "^(a|-bab)(c|bc)"), 0);
    }

    private static void witness() {
        dueFailure("(-a)*", 5, 5, 0);
        dueFailure("(+a)%", 5, 4, 0);
        dueFailure("(a*)%", 5, 4, 0);
        dueFailure("(a|b|c|aa|aaa)*", 15, 4, n("aa"));
        dueFailure("(ab|aba|b|ba)*", 14, 4, n("bab"));
        dueFailure(".*.*", 3, 2, n("a"));
        dueFailure(".*|cccccc", 3, 6, 1092);
        dueFailure("b.|a*|.b", 6, 6, n("bb"));
        // Two ways of a longer text than six letters are none.
        due("seven letters in two ways", compileLine(new TwoWayTexts(), "aaaaaaa|aaaaaaa"), 0);
        dueFailure("aaaaaa|aaaaaa", 7, 6, n("aaaaaa"));
    }

    private static void many() {
        due("sources of -.", with("-.").many(0), 3);
        due("views of -.", with("-.").many(1), 1);
        due("sources of .*", with(".*").many(0), 1093);
        due("views of .*", with(".*").many(1), 1093);
        due("sources of seven letters", with("aaaaaaa").many(0), 0);
        due("views of seven letters", with("aaaaaaa").many(1), 0);
        due("views of seven hidden letters", with("-a-a-a-a-a-a-a").many(1), 1);
        due("sources of ((=.-.)*)", with("((=.-.)*)").many(0), 1 + 9 + 81 + 729);
        dueThrown("many(0) without a program", () -> new TwoWayTexts().many(0), STATE);
        dueThrown("many(2) without a program", () -> new TwoWayTexts().many(2), STATE);
        TwoWayTexts y = with("a");
        for (int which : new int[] {-1, 2, Integer.MIN_VALUE, Integer.MAX_VALUE}) {
            dueThrown("many(" + which + ")", () -> y.many(which), ARGUMENT);
        }
    }

    private static void isSource() {
        TwoWayTexts x = with("a-b+c|^.c");
        due("ab", x.isSource(n("ab")), true);
        due("bc", x.isSource(n("bc")), true);
        due("ac", x.isSource(n("ac")), true);
        due("cb", x.isSource(n("cb")), false);
        due("the empty text", x.isSource(0), false);
        due("the empty text of a*", with("a*").isSource(0), true);
        due("cccccc of .*", with(".*").isSource(1092), true);
        dueTextExceptions("isSource", x, (y, text) -> y.isSource(text));
    }

    private static void isView() {
        TwoWayTexts x = with("a-b+c|^.c");
        due("ac", x.isView(n("ac")), true);
        due("cb", x.isView(n("cb")), true);
        due("ab", x.isView(n("ab")), false);
        due("a view whose source is too long", with("(-a-a-a+b)*").isView(n("bbbbbb")), true);
        dueTextExceptions("isView", x, (y, text) -> y.isView(text));
    }

    private static void get() {
        due("letters", with("abc").get(n("abc")), n("abc"));
        due("a dot", with(".").get(n("c")), n("c"));
        due("hidden", with("-.a").get(n("ca")), n("a"));
        due("added", with("+ba").get(n("a")), n("ba"));
        due("exchanged", with("^.(bc)").get(n("abc")), n("bca"));
        due("exchanged, chosen", with("^(a|-bab)(c|bc)").get(n("abc")), n("bca"));
        due("=", with("=(a-b)").get(n("ab")), n("a"));
        due("the first of a choice", with("a|-b+a").get(n("a")), n("a"));
        due("the second of a choice", with("-b+a|a+c").get(n("a")), n("ac"));
        TwoWayTexts x = with("(.+a+b)*");
        due("none", x.get(0), 0);
        due("two", x.get(n("cb")), n("cabbab"));
        due("three", x.get(n("cbc")), LONG);
        due("the greatest", x.get(1092), LONG);
        due("what is no source", with("a").get(n("b")), NONE);
        dueTextExceptions("get", x, (y, text) -> y.get(text));
    }

    private static void keep() {
        TwoWayTexts x = with("(.+a+b)*");
        due("no source", with("a").keep(n("b")), false);
        due("shown too long", x.keep(n("cbc")), false);
        dueThrown("put behind that", () -> x.put(0), STATE);
        TwoWayTexts y = with("-.b|a");
        due("a source", y.keep(n("cb")), true);
        due("put", y.put(n("b")), n("cb"));
        due("another one", y.keep(n("bb")), true);
        due("put", y.put(n("b")), n("bb"));
        due("no source", y.keep(n("c")), false);
        dueThrown("keep(1093)", () -> y.keep(1093), INDEX);
        due("the one before stays", y.put(n("b")), n("bb"));
        due("the same line again", compileLine(y, "-.b|a"), 0);
        dueThrown("put behind that", () -> y.put(n("b")), STATE);
        dueTextExceptions("keep", x, (z, text) -> z.keep(text));
    }

    private static void put() {
        due("a dot", putInto(".", "a", "c"), n("c"));
        due("- and a dot", putInto("-..", "ba", "c"), n("bc"));
        due("+", putInto("+a.", "b", "ac"), n("c"));
        due("exchanged", putInto("^(.-.)(b.)", "acba", "bcc"), n("ccbc"));
        due("=", putInto("=(.-.)", "ac", "b"), n("bc"));
        due("P, a view of P", putInto("-.a|-cb", "ba", "a"), n("ba"));
        due("P, no view of P", putInto("-.a|-cb", "ba", "b"), n("cb"));
        due("Q, a view of both", putInto("a|-b+a", "b", "a"), n("b"));
        due("Q, no view of Q", putInto("-.a|-cb", "cb", "a"), n("aa"));
        due("by place", putInto("(=.-.)*", "aabbca", "cab"), n("caabba"));
        due("by place, one more", putInto("(=.-.)*", "ac", "cb"), n("ccba"));
        due("by place, fewer", putInto("(=.-.)*", "acbcaa", "c"), n("cc"));
        due("by key", putInto("(=.-.)%", "aabbca", "cab"), n("caaabb"));
        due("by key, the j-th into the j-th", putInto("(=.-.)%", "abbcac", "aba"), n("abbcac"));
        due("by key, one more", putInto("(=.-.)%", "abac", "aaa"), n("abacaa"));
        due("by key, fewer", putInto("(=.-.)%", "abacbc", "ba"), n("bcab"));
        due("by no key", putInto("(.-.)%", "abbc", "cc"), n("cbcc"));
        due("the key of what is shown", putInto("(=(-c+a|b)-.)%", "cbbc", "ba"), n("bccb"));
        due("the empty text", putInto("(=.-.)%", "abac", ""), 0);
        TwoWayTexts x = with("(=.-.)%");
        x.keep(n("ab"));
        due("too long", x.put(n("abcc")), LONG);
        due("kept still", x.put(n("ba")), n("baab"));
        TwoWayTexts y = with("(a|-b+c)*");
        y.keep(n("ab"));
        due("no view", y.put(n("b")), NONE);
        due("kept still", y.put(n("c")), n("b"));
        dueThrown("put(-1)", () -> y.put(-1), INDEX);
        dueThrown("put(1093)", () -> y.put(1093), INDEX);
        dueThrown("put(1093) with nothing kept", () -> with("a").put(1093), STATE);
        dueTextExceptions("put", x, (z, text) -> z.put(text));
    }

    private static void create() {
        due("a letter", with("b").create(n("b")), n("b"));
        due("a dot", with(".").create(n("c")), n("c"));
        due("- and a letter", with("-c").create(0), n("c"));
        due("- and a dot", with("-.").create(0), n("a"));
        due("+", with("+c").create(n("c")), 0);
        due("joined", with(".-b.").create(n("ca")), n("cba"));
        due("exchanged", with("^(.-b)c").create(n("ca")), n("abc"));
        due("=", with("=(.-b)").create(n("c")), n("cb"));
        due("a view of both", with("-b+a|a").create(n("a")), n("b"));
        due("a view of Q", with("a|-b+c").create(n("c")), n("b"));
        due("*", with("(=.-.)*").create(n("bc")), n("baca"));
        due("%", with("(=.-.)%").create(n("bc")), n("baca"));
        TwoWayTexts x = with("(-a-a-a+b)*");
        due("six letters", x.create(n("bb")), n("aaaaaa"));
        due("nine letters", x.create(n("bbb")), LONG);
        due("no view", x.create(n("a")), NONE);
        due("seven hidden letters", with("-a-a-a-a-a-a-a").create(0), LONG);
        due("the first of a choice, though too long", with("-a-a-a-a-a-a-a|a").create(0), LONG);
        dueTextExceptions("create", x, (y, text) -> y.create(text));
    }

    private static TwoWayTexts withOrigins() {
        TwoWayTexts x = with("(=.-.)%");
        x.keep(n("abbcac"));
        due("put", x.put(n("baa")), n("bcabac"));
        dueFrom(x, 1, 0, 2);
        return x;
    }

    private static void from() {
        TwoWayTexts x = withOrigins();
        due("from(-1)", x.from(-1), NONE);
        due("from(greatest)", x.from(Integer.MAX_VALUE), NONE);
        due("from(least)", x.from(Integer.MIN_VALUE), NONE);
        x.keep(n("cc"));
        x.keep(n("c"));
        x.get(n("cc"));
        x.key(n("cc"));
        x.note();
        x.differs();
        x.many(0);
        x.isSource(0);
        x.isView(0);
        x.why();
        x.witness();
        typeLine(x, "((");
        dueThrown("put(1093)", () -> x.put(1093), INDEX);
        dueThrown("create(1093)", () -> x.create(1093), INDEX);
        due("a line that fails", x.compile(), 3);
        dueFrom(x, 1, 0, 2);
        due("put into what was kept last", x.put(n("ac")), n("aacc"));
        dueFrom(x, NONE, 0);

        TwoWayTexts y = withOrigins();
        due("put, too long", y.put(n("baaa")), LONG);
        dueFrom(y);
        TwoWayTexts z = withOrigins();
        z.create(n("b"));
        dueFrom(z);
        TwoWayTexts v = with("(b-.)*");
        v.keep(n("babc"));
        v.put(n("bbb"));
        dueFrom(v, 0, 1, NONE);
        due("put, no view", v.put(n("a")), NONE);
        dueFrom(v);
        v.put(n("b"));
        dueFrom(v, 0);
        due("create, no view", v.create(n("a")), NONE);
        dueFrom(v);
        v.put(n("b"));
        due("put of the empty text", v.put(0), 0);
        dueFrom(v);
        TwoWayTexts u = withOrigins();
        due("another program", compileLine(u, "a*"), 0);
        dueFrom(u);

        TwoWayTexts brackets = with("((a*))");
        brackets.keep(n("a"));
        brackets.put(n("aa"));
        dueFrom(brackets, 0, NONE);
        for (String line : new String[] {"=(a*)", "a*b|a*", "(a*)(b*)", "a"}) {
            TwoWayTexts other = with(line);
            other.keep(n("a"));
            due(line + " put", other.put(n("a")), n("a"));
            dueFrom(other);
        }
        // Of parts within the program nothing is told.
        TwoWayTexts inner = with("((=a-.)%c)*");
        inner.keep(n("abacc"));
        due("put", inner.put(n("acac")), n("abcaac"));
        dueFrom(inner, 0, NONE);
        due("put", inner.put(n("aac")), n("abacc"));
        dueFrom(inner, 0);
    }

    private static void key() {
        due("a letter", with("a").key(n("a")), 0);
        due("-", with("-a").key(0), 0);
        due("=", with("=(.b)").key(n("cb")), n("cb"));
        due("= within =", with("=(a=b)").key(n("ab")), n("ab"));
        due("joined", with("=.b=.").key(n("cba")), n("ca"));
        due("exchanged: P's first", with("^=.(=bc)").key(n("bca")), n("ab"));
        due("P of a choice", with("=a|-b+a").key(n("a")), n("a"));
        due("P of a choice first", with("-b+a|=a").key(n("a")), 0);
        due("Q of a choice", with("a|=b").key(n("b")), n("b"));
        due("*", with("(=.-..)*").key(n("abca")), n("ac"));
        due("%", with("(=.-..)%").key(n("abca")), n("ac"));
        due("six letters", with("=.%").key(1092), 1092);
        due("no view", with("=a").key(n("b")), NONE);
        dueTextExceptions("key", with("=.*"), (y, text) -> y.key(text));
    }

    private static void note() {
        TwoWayTexts x = with("a|-b+a|c");
        due("note", x.note(), 2);
        due("differs", x.differs(), NONE);
        due("another program", compileLine(x, ".*"), 0);
        due("note", x.note(), 1093);
        due("differs", x.differs(), NONE);
        due("another program", compileLine(x, "aaaaaaa"), 0);
        due("note of none", x.note(), 0);
        due("differs from none", x.differs(), NONE);
        dueThrown("note without a program", () -> new TwoWayTexts().note(), STATE);
        TwoWayTexts y = new TwoWayTexts();
        compileLine(y, "a|a");
        dueThrown("note behind a failure", () -> y.note(), STATE);
    }

    private static void differs() {
        TwoWayTexts x = with("a|c");
        dueThrown("differs with nothing noted", () -> x.differs(), STATE);
        x.note();
        due("another program", compileLine(x, "a|b|c"), 0);
        due("a view that is not noted", x.differs(), n("b"));
        due("another program", compileLine(x, "c|cc"), 0);
        due("noted and no view", x.differs(), n("a"));
        due("another program", compileLine(x, "a|-b+a|c"), 0);
        due("the same views", x.differs(), NONE);
        due("another program", compileLine(x, "a|c|cccccc"), 0);
        due("the greatest text", x.differs(), 1092);
        due("a line that fails", compileLine(x, "a|"), 3);
        due("differs as before", x.differs(), 1092);
        x.note();
        due("noted anew", x.differs(), NONE);
        due("another program", compileLine(x, "a*"), 0);
        due("the empty text", x.differs(), 0);
        dueThrown("differs without a program", () -> new TwoWayTexts().differs(), STATE);
    }

    private static void promise(int number, String name, Call test) {
        sentence("Promise " + number, name, test);
    }

    public static void main(String[] args) {
        promise(1, "A new object", PromiseTest::newObject);
        promise(2, "type", PromiseTest::type);
        promise(3, "compile", PromiseTest::compileOfNoProgram);
        promise(3, "compile", PromiseTest::compileOfParts);
        promise(4, "why", PromiseTest::why);
        promise(5, "witness", PromiseTest::witness);
        promise(6, "many", PromiseTest::many);
        promise(7, "isSource", PromiseTest::isSource);
        promise(8, "isView", PromiseTest::isView);
        promise(9, "get", PromiseTest::get);
        promise(10, "keep", PromiseTest::keep);
        promise(11, "put", PromiseTest::put);
        promise(12, "create", PromiseTest::create);
        promise(13, "from", PromiseTest::from);
        promise(14, "key", PromiseTest::key);
        promise(15, "note", PromiseTest::note);
        promise(16, "differs", PromiseTest::differs);
        end();
    }
}

/** The sentences of the sixteen promises that name a boundary or a refusal, each with a test of its own. */
public final class BoundaryTest extends Due {
    private static int promise = 0;

    private static void says(String words, Call test) {
        sentence("Promise " + promise, words, test);
    }

    private interface Group {
        void test();
    }

    private static void promise(int number, Group group) {
        promise = number;
        group.test();
    }

    public static void main(String[] args) {
        promise(1, BoundaryTest::newObject);
        promise(2, BoundaryTest::type);
        promise(2, BoundaryTest::typeOfWrongCharacters);
        promise(3, BoundaryTest::compileThatFails);
        promise(3, BoundaryTest::placesOfNoProgram);
        promise(3, BoundaryTest::placesOfParts);
        promise(3, BoundaryTest::lineBehindCompile);
        promise(4, BoundaryTest::why);
        promise(5, BoundaryTest::witness);
        promise(6, BoundaryTest::many);
        promise(7, BoundaryTest::isSource);
        promise(8, BoundaryTest::isView);
        promise(9, BoundaryTest::get);
        promise(10, BoundaryTest::keep);
        promise(10, BoundaryTest::keepThatIsRefused);
        promise(11, BoundaryTest::put);
        promise(11, BoundaryTest::putThatIsRefused);
        promise(12, BoundaryTest::create);
        promise(13, BoundaryTest::from);
        promise(13, BoundaryTest::fromWithoutPlaces);
        promise(13, BoundaryTest::fromUnchanged);
        promise(14, BoundaryTest::key);
        promise(15, BoundaryTest::note);
        promise(16, BoundaryTest::differs);
        end();
    }

    private static void newObject() {
        says("No program", () -> {
            TwoWayTexts x = new TwoWayTexts();
            dueThrown("many(0)", () -> x.many(0), STATE);
            dueThrown("isSource(0)", () -> x.isSource(0), STATE);
            dueThrown("isView(0)", () -> x.isView(0), STATE);
            dueThrown("get(0)", () -> x.get(0), STATE);
            dueThrown("keep(0)", () -> x.keep(0), STATE);
            dueThrown("put(0)", () -> x.put(0), STATE);
            dueThrown("create(0)", () -> x.create(0), STATE);
            dueThrown("key(0)", () -> x.key(0), STATE);
            dueThrown("note()", () -> x.note(), STATE);
            dueThrown("differs()", () -> x.differs(), STATE);
        });
        says("an empty line", () -> {
            due("compile", new TwoWayTexts().compile(), 1);
            TwoWayTexts x = new TwoWayTexts();
            typeLine(x, "a|b|c|aa|bb|ccaa");
            due("compile of sixteen characters", x.compile(), 0);
            TwoWayTexts y = new TwoWayTexts();
            y.type('d');
            due("compile of one", y.compile(), 1);
        });
        says("nothing kept", () -> {
            dueThrown("put(1)", () -> with("a").put(1), STATE);
            dueThrown("put(0)", () -> with("a*").put(0), STATE);
        });
        says("nothing noted", () -> dueThrown("differs()", () -> with("a").differs(), STATE));
        says("A new object knows nothing of another one", () -> {
            TwoWayTexts other = keeping("(=.-.)%", "abbc");
            other.put(n("ba"));
            other.note();
            compileLine(other, "a|a");
            other.type('a');
            TwoWayTexts x = new TwoWayTexts();
            due("why", x.why(), 0);
            due("witness", x.witness(), NONE);
            due("from", x.from(0), NONE);
            due("compile", x.compile(), 1);
            dueThrown("many(0)", () -> x.many(0), STATE);
        });
    }

    private static void type() {
        says("The characters whose codes are the bytes of four, the lowest first", () -> {
            TwoWayTexts x = new TwoWayTexts();
            due("type", x.type('a' | 'b' << 8 | 'c' << 16 | 'b' << 24), true);
            due("compile", x.compile(), 0);
            due("abcb being the source", x.isSource(n("abcb")), true);
        });
        says("up to the first that is 0", () -> {
            TwoWayTexts x = new TwoWayTexts();
            due("none", x.type(0), true);
            due("a 0 first", x.type(four("bbb") << 8), true);
            due("a 0 behind one", x.type('a' | 'b' << 16 | 'b' << 24), true);
            due("a 0 behind two", x.type('a' | 'b' << 8 | 'b' << 24), true);
            due("a 0 behind three", x.type(four("abc")), true);
            due("compile", x.compile(), 0);
            due("aababc being the source", x.isSource(n("aababc")), true);
        });
        says("are put at the end of the line: true", () -> {
            TwoWayTexts x = new TwoWayTexts();
            due("the first", x.type(four("ab")), true);
            due("the second", x.type(four("c")), true);
            due("the third", x.type(four("cab")), true);
            due("compile", x.compile(), 0);
            due("abccab being the source", x.isSource(n("abccab")), true);
        });
        says("false, changing nothing, when it would have more than 16", () -> {
            for (int length = 12; length <= 16; length++) {
                TwoWayTexts x = new TwoWayTexts();
                typeLine(x, "===============a".substring(0, length));
                for (int more = 4; more > 16 - length; more--) {
                    due(more + " more than " + length, x.type(four("))))".substring(0, more))), false);
                }
                due("as many more as there is room for", x.type(four("====".substring(0, 16 - length))), true);
                due("one more", x.type('='), false);
                due("none more", x.type(0), true);
                due("compile", x.compile(), length == 16 ? 0 : 17);
            }
        });
        says("false changes nothing of the program either", () -> {
            TwoWayTexts x = keeping("(=.-.)%", "abbc");
            x.put(n("ba"));
            x.note();
            typeLine(x, "================");
            due("type", x.type('a'), false);
            due("from", x.from(0), 1);
            due("differs", x.differs(), NONE);
            due("put", x.put(n("ba")), n("bcab"));
        });
    }

    private static void typeOfWrongCharacters() {
        says("IllegalArgumentException, before that, when one of them is not 32 .. 126", () -> {
            for (int code = 0; code <= 255; code++) {
                int byteInPlace = code;
                String want = code == 0 || code >= 32 && code <= 126 ? NOTHING : ARGUMENT;
                dueThrown("the code " + code, () -> new TwoWayTexts().type(byteInPlace), want);
                dueThrown("the code " + code + " second", () -> new TwoWayTexts().type('a' | byteInPlace << 8), want);
                dueThrown("the code " + code + " third",
                    () -> new TwoWayTexts().type(four("aa") | byteInPlace << 16), want);
                dueThrown("the code " + code + " fourth",
                    () -> new TwoWayTexts().type(four("aaa") | byteInPlace << 24), want);
            }
            dueThrown("-1", () -> new TwoWayTexts().type(-1), ARGUMENT);
            dueThrown("the least", () -> new TwoWayTexts().type(Integer.MIN_VALUE), NOTHING);
            dueThrown("the greatest", () -> new TwoWayTexts().type(Integer.MAX_VALUE), ARGUMENT);
        });
        says("before that: the exception comes though there is no room", () -> {
            TwoWayTexts x = new TwoWayTexts();
            typeLine(x, "================");
            dueThrown("a wrong one", () -> x.type(31), ARGUMENT);
            dueThrown("a wrong one behind good ones", () -> x.type(four("abc") | 127 << 24), ARGUMENT);
            due("a good one", x.type('a'), false);
        });
        says("one of them: what stands behind a 0 is none of them", () -> {
            TwoWayTexts x = new TwoWayTexts();
            due("wrong ones behind a 0", x.type('a' | 31 << 16 | 200 << 24), true);
            due("wrong ones behind two", x.type('b' | 'c' << 8 | 1 << 24), true);
            due("wrong ones behind none", x.type(31 << 8), true);
            due("compile", x.compile(), 0);
            due("abc being the source", x.isSource(n("abc")), true);
        });
        says("A call that throws puts nothing into the line", () -> {
            TwoWayTexts x = new TwoWayTexts();
            x.type('a');
            for (int place = 0; place < 4; place++) {
                int wrong = four("bbbb") & ~(255 << 8 * place) | 31 << 8 * place;
                dueThrown("a wrong one", () -> x.type(wrong), ARGUMENT);
            }
            x.type('c');
            due("compile", x.compile(), 0);
            due("ac being the source", x.isSource(n("ac")), true);
        });
    }

    private static final String NO_PROGRAM_LINE = "a|";
    private static final String BAD_LINE = "a|a";

    private static void compileThatFails() {
        says("The line becomes the program: 0", () -> {
            TwoWayTexts x = with("a");
            due("compile", compileLine(x, "b|c"), 0);
            due("its sources", x.many(0), 2);
            due("b", x.isSource(2), true);
            due("a", x.isSource(1), false);
        });
        says("Otherwise the program stays that was there", () -> {
            TwoWayTexts x = with("b|-c+b");
            for (String line : new String[] {NO_PROGRAM_LINE, BAD_LINE, "", "(a|ab)(c|bc)", "(-a)*"}) {
                due("compile of " + line + " failing", compileLine(x, line) > 0, true);
                due("sources", x.many(0), 2);
                due("views", x.many(1), 1);
                due("get", x.get(3), 2);
                due("create", x.create(2), 2);
            }
            due("a good line behind those", compileLine(x, "a"), 0);
            due("sources", x.many(0), 1);
        });
        says("the program stays that was there: where there was none, there is none", () -> {
            dueFailure(NO_PROGRAM_LINE, 3, 1, NONE);
            dueFailure(BAD_LINE, 2, 6, 1);
        });
        says("with what is kept", () -> {
            for (String line : new String[] {NO_PROGRAM_LINE, BAD_LINE}) {
                TwoWayTexts x = keeping("(=.-.)%", "abbc");
                compileLine(x, line);
                due("put behind " + line, x.put(n("ba")), n("bcab"));
            }
        });
        says("and what from tells", () -> {
            for (String line : new String[] {NO_PROGRAM_LINE, BAD_LINE}) {
                TwoWayTexts x = keeping("(=.-.)%", "abbc");
                x.put(n("ba"));
                compileLine(x, line);
                dueFrom(x, 1, 0);
            }
        });
        says("What is noted stays when a line fails, and when one does not", () -> {
            TwoWayTexts x = with("a|b");
            x.note();
            compileLine(x, NO_PROGRAM_LINE);
            compileLine(x, BAD_LINE);
            due("differs", x.differs(), NONE);
            compileLine(x, "a");
            due("differs", x.differs(), n("b"));
        });
    }

    private static void placesOfNoProgram() {
        says("a place of the line (from 0) + 1 is the answer: of the first character that can't stand there", () -> {
            dueNoProgram("da", 1);
            dueNoProgram("ada", 2);
            dueNoProgram("a|b|d|d", 5);
            dueNoProgram("aaaaaaaaaaaaaaad", 16);
            dueNoProgram("a b", 2);
            dueNoProgram("(a*)*b%%", 8);
        });
        says("(a fifth bracket, too", () -> {
            dueNoProgram("(((((", 5);
            dueNoProgram("((((a))))(((((", 14);
            dueNoProgram("a(b(c(a(b(", 10);
        });
        says("the line's length when it ends too early)", () -> {
            dueNoProgram("", 1);
            dueNoProgram("(", 2);
            dueNoProgram("((((", 5);
            dueNoProgram("ab|", 4);
            dueNoProgram("a-", 3);
            dueNoProgram("a+", 3);
            dueNoProgram("^a", 3);
            dueNoProgram("a=", 3);
            dueNoProgram("aaaaaaaaaaaaaaa-", 17);
            dueNoProgram("(aaaaaaaaaaaaaaa", 17);
        });
        says("The line is no program before one of its parts isn't good", () -> {
            dueNoProgram("a|a|", 5);
            dueNoProgram("(a|a", 5);
            dueNoProgram("(-a)*)", 6);
        });
    }

    private static void placesOfParts() {
        says("of | * % ^ that sign: |", () -> {
            dueFailure("a|a", 2, 6, 1);
            dueFailure("abc|b|abc", 6, 6, n("abc"));
            dueFailure("(b|c(a|a))", 7, 6, 1);
        });
        says("of | * % ^ that sign: *", () -> {
            dueFailure("(-a)*", 5, 5, 0);
            dueFailure("b(c(+a)*)", 8, 4, 0);
            dueFailure("-a*", 3, 5, 0);
        });
        says("of | * % ^ that sign: %", () -> {
            dueFailure("(-a)%", 5, 5, 0);
            dueFailure("b(c(+a)%)", 8, 4, 0);
            dueFailure("+a%", 3, 4, 0);
        });
        says("of | * % ^ that sign: ^", () -> {
            dueFailure("^(a*)(a*)", 1, 2, 1);
            dueFailure("bc^(a*)(a*)", 3, 2, 1);
            dueFailure("^b^(a*)(a*)", 3, 2, 1);
        });
        says("of a joining the first character of Q", () -> {
            dueFailure("a*a*", 3, 2, 1);
            dueFailure("a*(a*)", 3, 2, 1);
            dueFailure("a*=(a*)", 3, 2, 1);
            dueFailure("b*a*^(a*)b", 5, 2, n("ab"));
            dueFailure("(b(a*a*))", 6, 2, 1);
            dueFailure("a*-b*", 5, 5, 0);
            dueFailure("(-b|a)(-b|a)", 7, 3, 1);
        });
        says("of the first part that isn't good", () -> {
            dueFailure("(a|a)(b|b)(c|c)", 3, 6, 1);
            dueFailure("(a|b)(b|b)(c|c)", 8, 6, 2);
            dueFailure("(a|b)(b|a)(c|c)", 13, 6, 3);
        });
    }

    private static void lineBehindCompile() {
        says("The line is empty then in any case", () -> {
            TwoWayTexts x = new TwoWayTexts();
            for (String line : new String[] {"a", NO_PROGRAM_LINE, BAD_LINE, "(((((", "d"}) {
                compileLine(x, line);
                due("compile of an empty line behind " + line, x.compile(), 1);
                due("why", x.why(), 1);
                compileLine(x, line);
                due("compile of sixteen characters behind " + line, compileLine(x, "a|b|c|aa|bb|ccaa"), 0);
            }
        });
    }

    private static void why() {
        says("0 it did not", () -> {
            TwoWayTexts x = with("a");
            due("behind a good line", x.why(), 0);
            compileLine(x, BAD_LINE);
            compileLine(x, "b");
            due("behind a bad line and a good one", x.why(), 0);
        });
        says("(or there was none)", () -> {
            due("a new object", new TwoWayTexts().why(), 0);
            TwoWayTexts x = new TwoWayTexts();
            x.type('d');
            due("a line not compiled", x.why(), 0);
        });
        says("1 the line is no program", () -> {
            dueNoProgram("", 1);
            dueNoProgram("d", 1);
            dueNoProgram("a(", 3);
            dueNoProgram("(((((", 5);
        });
        says("2 a source has two ways (joined, ^)", () -> {
            dueFailure("(a|ab)(-c|-bc)", 7, 2, n("abc"));
            dueFailure("^(a|ab)(-c|-bc)", 1, 2, n("abc"));
        });
        says("3 a view has", () -> {
            dueFailure("(a|-bab)(c|bc)", 9, 3, n("abc"));
            dueFailure("^(c|bc)(a|-bab)", 1, 3, n("abc"));
        });
        says("4 a source has two ways (* and %)", () -> {
            dueFailure("(a|a+ba)*", 9, 4, n("aa"));
            dueFailure("(a|a+ba)%", 9, 4, n("aa"));
        });
        says("5 a view has", () -> {
            dueFailure("(a|-baa)*", 9, 5, n("aa"));
            dueFailure("(a|-baa)%", 9, 5, n("aa"));
        });
        says("6 a source of both", () -> {
            dueFailure("a|-a", 2, 6, 1);
            dueFailure("+a|+b", 3, 6, 0);
        });
        says("Why the latest compile failed", () -> {
            TwoWayTexts x = new TwoWayTexts();
            String[] lines = {"a|a", "a", "a(", "(-a)*", "b", "(+a)*", "a*a*", "a(", "(a|-b)(a|-b)", "c"};
            int[] whys = {6, 0, 1, 5, 0, 4, 2, 1, 3, 0};
            for (int i = 0; i < lines.length; i++) {
                compileLine(x, lines[i]);
                due("why of " + lines[i], x.why(), whys[i]);
                x.type('a');
                x.from(0);
                due("why of " + lines[i] + ", asked again", x.why(), whys[i]);
                x.compile();
            }
        });
    }

    private static void witness() {
        says("The least text for which that is so", () -> {
            dueFailure("(aa|ab|ba|bb)*a*", 15, 2, n("aa"));
            dueFailure(".*(c|b)*", 3, 2, n("b"));
            dueFailure("b.|a*|.b", 6, 6, n("bb"));
            dueFailure("(c|b|a)|(b|c)", 8, 6, n("b"));
            // abb is met sooner when fronts and backs are joined in order; ba is less.
            dueFailure(".*(bb|abb|a|ba)", 3, 2, n("ba"));
            dueFailure("(a|b|ba|cc|acc)*", 16, 4, n("ba"));
            dueFailure("(a|b|c|bb|aa)*", 14, 4, n("aa"));
            dueFailure("(c|-ac|-bcc)*", 13, 5, n("cc"));
            dueFailure("(c|-b)(-b|c|a)", 7, 3, n("c"));
        });
        says("(0 when the empty text is one of a part under * or %)", () -> {
            dueFailure("(+a)*", 5, 4, 0);
            dueFailure("(-a)*", 5, 5, 0);
            dueFailure("(a|aa|+b)%", 10, 4, 0);
            dueFailure("(a|-baa|-c)%", 12, 5, 0);
        });
        says("NONE when why is 0 or 1", () -> {
            due("a new object", new TwoWayTexts().witness(), NONE);
            due("behind a good line", with("a").witness(), NONE);
            TwoWayTexts x = new TwoWayTexts();
            for (String line : new String[] {"a", "a(", ""}) {
                compileLine(x, "a|a");
                due("witness behind a|a", x.witness(), 1);
                compileLine(x, line);
                due("witness behind " + line, x.witness(), NONE);
            }
        });
    }

    private static void many() {
        says("How many sources (0) or views (1) the program has", () -> {
            dueMany("-.", 3, 1);
            dueMany("+a", 1, 1);
            dueMany("a|-b+a|.c", 5, 4);
            dueMany("aaaaaaa", 0, 0);
            dueMany("-a-a-a-a-a-a-a", 0, 1);
            dueMany("+a+a+a+a+a+a+a", 1, 0);
            dueMany(".*", 1093, 1093);
        });
        says("IllegalStateException when there is no program", () -> {
            for (int which : new int[] {0, 1, -1, 2}) {
                dueThrown("many(" + which + ")", () -> new TwoWayTexts().many(which), STATE);
            }
            TwoWayTexts failed = new TwoWayTexts();
            compileLine(failed, BAD_LINE);
            dueThrown("many(0)", () -> failed.many(0), STATE);
        });
        says("IllegalArgumentException when which is another number", () -> {
            TwoWayTexts x = with("a");
            dueThrown("many(0)", () -> x.many(0), NOTHING);
            dueThrown("many(1)", () -> x.many(1), NOTHING);
            for (int which : new int[] {-1, 2, 3, Integer.MIN_VALUE, Integer.MAX_VALUE}) {
                dueThrown("many(" + which + ")", () -> x.many(which), ARGUMENT);
            }
        });
    }

    private static void isSource() {
        says("Whether a text is a source", () -> {
            TwoWayTexts x = with("-a+b|cccccc|+c");
            for (int text = 0; text <= 1092; text++) {
                due("isSource(" + text + ")", x.isSource(text), text == 0 || text == 1 || text == 1092);
            }
        });
        says("isSource: IllegalStateException when there is no program",
            () -> dueThrownWithoutProgram("isSource", (x, text) -> x.isSource(text)));
        says("isSource: IndexOutOfBoundsException when there is no such text",
            () -> dueThrownForNoText("isSource", with(".*"), (x, text) -> x.isSource(text)));
    }

    private static void isView() {
        says("Whether a text is a view", () -> {
            TwoWayTexts x = with("-a+b|cccccc|-c");
            for (int text = 0; text <= 1092; text++) {
                due("isView(" + text + ")", x.isView(text), text == 0 || text == 2 || text == 1092);
            }
            due("a view whose source is too long", with("(-a-a-a+b)*").isView(n("bbbbbb")), true);
        });
        says("isView: IllegalStateException when there is no program",
            () -> dueThrownWithoutProgram("isView", (x, text) -> x.isView(text)));
        says("isView: IndexOutOfBoundsException when there is no such text",
            () -> dueThrownForNoText("isView", with(".*"), (x, text) -> x.isView(text)));
    }

    private static void get() {
        says("What is shown of a source", () -> {
            due("the empty text", with("(.-.)*").get(0), 0);
            due("the greatest", with("(.-.)*").get(1092), n("ccc"));
            due("as long as can be", with("(.+a)*").get(n("bcb")), n("bacaba"));
        });
        says("get: NONE when it is none", () -> {
            TwoWayTexts x = with("-a+b");
            due("a view", x.get(n("b")), NONE);
            due("the empty text", x.get(0), NONE);
            due("the greatest", x.get(1092), NONE);
        });
        says("get: LONG", () -> {
            due("seven letters", with(".*+a").get(1092), LONG);
            due("six letters", with(".*+a").get(n("ccccc")), n("ccccca"));
            due("twelve letters", with("(.+a)%").get(1092), LONG);
            due("seven letters exchanged", with("^(.*)+a").get(1092), LONG);
        });
        says("get: IllegalStateException when there is no program",
            () -> dueThrownWithoutProgram("get", (x, text) -> x.get(text)));
        says("get: IndexOutOfBoundsException when there is no such text",
            () -> dueThrownForNoText("get", with(".*"), (x, text) -> x.get(text)));
    }

    private static void keep() {
        says("A source is KEPT, in place of the one that was: true", () -> {
            TwoWayTexts x = with("-..*");
            due("the first", x.keep(n("ba")), true);
            due("put into the first", x.put(n("c")), n("bc"));
            due("the second", x.keep(n("ca")), true);
            due("put into the second", x.put(n("c")), n("cc"));
            due("the second again", x.keep(n("ca")), true);
            due("the greatest", x.keep(1092), true);
            due("put into the greatest", x.put(0), n("c"));
            due("the empty text", with(".*").keep(0), true);
        });
        says("(With another program nothing is kept.)", () -> {
            TwoWayTexts x = keeping("a|b", "a");
            due("another program", compileLine(x, "a|c"), 0);
            dueThrown("put(1)", () -> x.put(1), STATE);
            due("a source", x.keep(3), true);
            due("put", x.put(1), 1);
        });
        says("keep: IllegalStateException when there is no program",
            () -> dueThrownWithoutProgram("keep", (x, text) -> x.keep(text)));
        says("keep: IndexOutOfBoundsException when there is no such text",
            () -> dueThrownForNoText("keep", with(".*"), (x, text) -> x.keep(text)));
    }

    private static void keepThatIsRefused() {
        says("false, changing nothing, when it is none", () -> {
            TwoWayTexts x = with("-..");
            due("a view", x.keep(n("b")), false);
            dueThrown("put with nothing kept", () -> x.put(1), STATE);
            x.keep(n("ba"));
            due("the empty text", x.keep(0), false);
            due("a view", x.keep(n("b")), false);
            due("the greatest", x.keep(1092), false);
            due("put into what was kept", x.put(n("c")), n("bc"));
        });
        says("false, changing nothing, when what is shown of it is longer than a text", () -> {
            TwoWayTexts x = with("-..*+a+a");
            due("seven letters", x.keep(n("aaaaaa")), false);
            dueThrown("put with nothing kept", () -> x.put(n("baa")), STATE);
            x.keep(n("ca"));
            due("seven letters", x.keep(n("aaaaaa")), false);
            due("put into what was kept", x.put(n("baa")), n("cb"));
            due("six letters", x.keep(n("aaaaa")), true);
            due("put into these", x.put(n("baa")), n("ab"));
            due("eighteen letters", with("(.+a+a)*").keep(1092), false);
        });
        says("keep that throws leaves the one that was", () -> {
            TwoWayTexts x = keeping("-..", "ba");
            dueThrown("keep(1093)", () -> x.keep(1093), INDEX);
            dueThrown("keep(-1)", () -> x.keep(-1), INDEX);
            due("put", x.put(n("c")), n("bc"));
        });
    }

    private static void put() {
        says("The view put into the source that is kept", () -> {
            due("the empty text", putInto("(=.-.)%", "abbc", ""), 0);
            due("into the empty text", putInto("(=.-.)%", "", "b"), n("ba"));
            due("the greatest", putInto(".*", "", "cccccc"), 1092);
        });
        says("(which stays so)", () -> {
            TwoWayTexts y = keeping("(=.-.)%", "abbc");
            due("put", y.put(n("c")), n("ca"));
            due("put again", y.put(n("ba")), n("bcab"));
            due("put that is too long", y.put(1092), LONG);
            due("put again", y.put(n("ba")), n("bcab"));
            TwoWayTexts z = keeping("-.b", "cb");
            due("put that is no view", z.put(n("a")), NONE);
            due("put again", z.put(n("b")), n("cb"));
        });
        says("What is kept stays so behind create and the others", () -> {
            TwoWayTexts x = keeping("-.b", "cb");
            x.create(n("b"));
            x.create(n("a"));
            x.get(n("ab"));
            x.key(n("b"));
            x.note();
            x.differs();
            x.why();
            x.witness();
            x.from(0);
            x.type('a');
            x.many(0);
            x.isSource(n("ab"));
            x.isView(n("b"));
            due("put", x.put(n("b")), n("cb"));
        });
    }

    private static void putThatIsRefused() {
        says("put: NONE when it is no view", () -> {
            TwoWayTexts x = keeping("-a+b", "a");
            due("the empty text", x.put(0), NONE);
            due("a source", x.put(n("a")), NONE);
            due("the greatest", x.put(1092), NONE);
        });
        says("put: LONG", () -> {
            TwoWayTexts x = keeping("(.-.)*", "ab");
            due("six letters", x.put(n("abc")), n("abbaca"));
            due("eight letters", x.put(n("abca")), LONG);
            due("six letters", putInto(".*-.", "b", "aaaaa"), n("aaaaab"));
            due("seven letters", putInto(".*-.", "b", "aaaaaa"), LONG);
        });
        says("put: IllegalStateException when there is no program",
            () -> dueThrownWithoutProgram("put", (x, text) -> x.put(text)));
        says("put: IllegalStateException when nothing is kept", () -> {
            for (int view : new int[] {0, 1, 1092, -1, 1093}) {
                dueThrown("put(" + view + ")", () -> with("a").put(view), STATE);
            }
        });
        says("put: IndexOutOfBoundsException when there is no such text",
            () -> dueThrownForNoText("put", keeping(".*", "a"), (x, text) -> x.put(text)));
    }

    private static void create() {
        says("The source created from a view", () -> {
            due("the empty text", with("(.-.)*").create(0), 0);
            due("with nothing kept", with("(.-.)*").create(n("ab")), n("aaba"));
            due("whatever is kept", keeping("(.-.)*", "acbc").create(n("ab")), n("aaba"));
            due("the greatest", with(".*").create(1092), 1092);
        });
        says("create: NONE when it is no view", () -> {
            TwoWayTexts x = with("-a+b");
            due("the empty text", x.create(0), NONE);
            due("a source", x.create(n("a")), NONE);
            due("the greatest", x.create(1092), NONE);
        });
        says("create: LONG", () -> {
            due("six letters", with(".*-b").create(n("aaaaa")), n("aaaaab"));
            due("seven letters", with(".*-b").create(n("aaaaaa")), LONG);
            due("seven letters exchanged", with("^(.*)-b").create(n("aaaaaa")), LONG);
            due("twelve letters", with("(.-.)%").create(1092), LONG);
        });
        says("create: IllegalStateException when there is no program",
            () -> dueThrownWithoutProgram("create", (x, text) -> x.create(text)));
        says("create: IndexOutOfBoundsException when there is no such text",
            () -> dueThrownForNoText("create", with(".*"), (x, text) -> x.create(text)));
    }

    /** Behind it from tells 1, 0, 2. */
    private static TwoWayTexts withPlaces() {
        TwoWayTexts x = keeping("(=.-.)%", "abbcac");
        due("put", x.put(n("baa")), n("bcabac"));
        dueFrom(x, 1, 0, 2);
        return x;
    }

    private static void from() {
        says("the place (from 0) of the part of the source into which part k of the view was put", () -> {
            withPlaces();
            TwoWayTexts x = keeping(".*", "aaaaaa");
            x.put(n("cccccc"));
            dueFrom(x, 0, 1, 2, 3, 4, 5);
            TwoWayTexts y = keeping("=.%", "abcabc");
            y.put(n("ccbbaa"));
            dueFrom(y, 2, 5, 1, 4, 0, 3);
        });
        says("When the program as a whole is * or %", () -> {
            for (String line : new String[] {"a*", "a%", "(a*)", "((a)%)"}) {
                TwoWayTexts x = keeping(line, "a");
                due("put", x.put(n("a")), n("a"));
                dueFrom(x, 0);
            }
            for (String line : new String[] {"a", "=(a*)", "=(a%)", "a*b*", "a*b|a*", "^(a*)(b*)", "b|a%"}) {
                TwoWayTexts x = keeping(line, "a");
                due("put", x.put(n("a")), n("a"));
                dueFrom(x);
            }
            // Nothing is left of the * that was the program before.
            TwoWayTexts x = keeping("a*", "a");
            x.put(n("a"));
            for (int i = 0; i < 3; i++) {
                due("compile", compileLine(x, "=a"), 0);
                x.keep(n("a"));
                due("put", x.put(n("a")), n("a"));
                dueFrom(x);
            }
        });
        says("and the latest put answered a text", () -> {
            TwoWayTexts x = withPlaces();
            due("put of another view", x.put(n("b")), n("bc"));
            dueFrom(x, 1);
            due("put of the empty text", x.put(0), 0);
            dueFrom(x);
            x.put(n("aab"));
            dueFrom(x, 0, 2, 1);
        });
        says("NONE when that was created", () -> {
            TwoWayTexts x = keeping("(=.-.)%", "abbc");
            x.put(n("aab"));
            dueFrom(x, 0, NONE, 1);
            TwoWayTexts y = keeping("(=.-.)*", "ab");
            y.put(n("aab"));
            dueFrom(y, 0, NONE, NONE);
            TwoWayTexts z = keeping("(=.-.)*", "");
            z.put(n("a"));
            dueFrom(z);
        });
        says("or there is no such part", () -> {
            TwoWayTexts x = withPlaces();
            for (int k : new int[] {-1, 3, 6, 7, Integer.MIN_VALUE, Integer.MAX_VALUE}) {
                due("from(" + k + ")", x.from(k), NONE);
            }
            TwoWayTexts y = keeping(".*", "aaaaaa");
            y.put(n("a"));
            dueFrom(y, 0);
        });
    }

    private static void fromWithoutPlaces() {
        says("NONE otherwise, too: in a new object, and with no put", () -> {
            dueFrom(new TwoWayTexts());
            dueFrom(with("a*"));
            dueFrom(keeping("a*", "a"));
        });
        says("(behind a put that answered NONE", () -> {
            TwoWayTexts x = keeping("(a-.)*", "ab");
            x.put(n("a"));
            dueFrom(x, 0);
            due("put", x.put(n("b")), NONE);
            dueFrom(x);
        });
        says("or LONG", () -> {
            TwoWayTexts x = withPlaces();
            due("put", x.put(n("baac")), LONG);
            dueFrom(x);
        });
        says("behind create", () -> {
            TwoWayTexts x = withPlaces();
            due("create", x.create(n("b")), n("ba"));
            dueFrom(x);
            x.put(n("baa"));
            dueFrom(x, 1, 0, 2);
            due("create", x.create(1092), LONG);
            dueFrom(x);
            TwoWayTexts y = keeping("(a-.)*", "ab");
            y.put(n("a"));
            due("create", y.create(n("b")), NONE);
            dueFrom(y);
        });
        says("and with another program", () -> {
            TwoWayTexts x = withPlaces();
            due("another program", compileLine(x, "(=.-.)*"), 0);
            dueFrom(x);
            TwoWayTexts y = withPlaces();
            due("another program", compileLine(y, "a"), 0);
            dueFrom(y);
        });
    }

    private static void fromUnchanged() {
        says("a call that throws", () -> {
            TwoWayTexts x = withPlaces();
            dueThrown("type", () -> x.type(31), ARGUMENT);
            dueFrom(x, 1, 0, 2);
            dueThrown("many(2)", () -> x.many(2), ARGUMENT);
            dueFrom(x, 1, 0, 2);
            TextCall[] calls = {(y, text) -> y.isSource(text), (y, text) -> y.isView(text), (y, text) -> y.get(text),
                (y, text) -> y.keep(text), (y, text) -> y.put(text), (y, text) -> y.create(text),
                (y, text) -> y.key(text)};
            for (TextCall call : calls) {
                dueThrown("a text of -1", () -> call.make(x, -1), INDEX);
                dueThrown("a text of 1093", () -> call.make(x, 1093), INDEX);
                dueFrom(x, 1, 0, 2);
            }
            dueThrown("differs", () -> x.differs(), STATE);
            dueFrom(x, 1, 0, 2);
        });
        says("keep", () -> {
            TwoWayTexts x = withPlaces();
            due("of another source", x.keep(n("cc")), true);
            dueFrom(x, 1, 0, 2);
            due("of none", x.keep(n("c")), false);
            dueFrom(x, 1, 0, 2);
            TwoWayTexts y = keeping("(.+b+b)*", "ab");
            y.put(n("abb"));
            dueFrom(y, 0);
            due("of one shown too long", y.keep(n("aaa")), false);
            dueFrom(y, 0);
        });
        says("and the others change nothing of it", () -> {
            TwoWayTexts x = withPlaces();
            x.type('a');
            x.type(four("bbbb"));
            x.type(four("bbbb"));
            x.type(four("bbbb"));
            x.type(four("bbbb"));
            dueFrom(x, 1, 0, 2);
            x.why();
            x.witness();
            x.many(0);
            x.many(1);
            x.isSource(0);
            x.isView(0);
            x.get(n("cc"));
            x.get(n("c"));
            dueFrom(x, 1, 0, 2);
            x.key(n("cc"));
            x.note();
            x.differs();
            dueFrom(x, 1, 0, 2);
        });
    }

    private static void key() {
        says("The key of a view of the program (as if it stood under %)", () -> {
            due("of no =", with(".*").key(1092), 0);
            due("of six =", with("=.%").key(1092), 1092);
            due("of the empty view", with("=.%").key(0), 0);
            due("of a program that stands under nothing", with("=.b").key(n("cb")), n("c"));
        });
        says("key: NONE when it is no view", () -> {
            TwoWayTexts x = with("=(-a+b)");
            due("the empty text", x.key(0), NONE);
            due("a source", x.key(n("a")), NONE);
            due("the greatest", x.key(1092), NONE);
        });
        says("key: IllegalStateException when there is no program",
            () -> dueThrownWithoutProgram("key", (x, text) -> x.key(text)));
        says("key: IndexOutOfBoundsException when there is no such text",
            () -> dueThrownForNoText("key", with(".*"), (x, text) -> x.key(text)));
    }

    private static void note() {
        says("The views of the program are noted, to be compared with others: how many", () -> {
            due("one of two sources", with("a|-b+a").note(), 1);
            due("none", with("aaaaaaa").note(), 0);
            due("none, though there is a source", with("+a+a+a+a+a+a+a").note(), 0);
            due("all", with(".*").note(), 1093);
            TwoWayTexts x = with("a|b");
            x.note();
            compileLine(x, "c");
            due("in place of those that were", x.note(), 1);
            due("differs", x.differs(), NONE);
        });
        says("note: IllegalStateException when there is no program", () -> {
            dueThrown("note of a new object", () -> new TwoWayTexts().note(), STATE);
            TwoWayTexts failed = new TwoWayTexts();
            compileLine(failed, BAD_LINE);
            dueThrown("note behind a line that failed", () -> failed.note(), STATE);
            due("a good line", compileLine(failed, "a"), 0);
            dueThrown("differs: that note noted nothing", () -> failed.differs(), STATE);
        });
    }

    private static TwoWayTexts noted(String line, String nextLine) {
        TwoWayTexts x = with(line);
        x.note();
        due("compile of " + nextLine, compileLine(x, nextLine), 0);
        return x;
    }

    private static void differs() {
        says("The least text that is a view of the program and not noted", () -> {
            due("b before c", noted("a", "c|b|a").differs(), n("b"));
            due("the greatest", noted("a", "a|cccccc").differs(), 1092);
            due("the empty text", noted("a", "-b|a").differs(), 0);
            due("none were noted", noted("aaaaaaa", "b").differs(), n("b"));
        });
        says("or noted and no view", () -> {
            due("b before c", noted("c|b|a", "a").differs(), n("b"));
            due("the greatest", noted("a|cccccc", "a").differs(), 1092);
            due("the empty text", noted("-b|a", "a").differs(), 0);
            due("there are no views", noted("b", "aaaaaaa").differs(), n("b"));
            due("the lesser of both kinds", noted("a|b", "a|c").differs(), n("b"));
            due("the lesser of both kinds", noted("a|c", "a|b").differs(), n("b"));
        });
        says("differs: NONE when there is none", () -> {
            due("the same program", noted("a|b", "a|b").differs(), NONE);
            due("other sources", noted("a|b", "-c+a|b").differs(), NONE);
            due("no views", noted("aaaaaaa", "bbbbbbb").differs(), NONE);
            due("all texts", noted(".*", ".%").differs(), NONE);
        });
        says("differs: IllegalStateException when there is no program",
            () -> dueThrown("differs", () -> new TwoWayTexts().differs(), STATE));
        says("or nothing was noted", () -> {
            TwoWayTexts x = with("a");
            dueThrown("differs", () -> x.differs(), STATE);
            compileLine(x, "aaaaaaa");
            dueThrown("differs of a program without views", () -> x.differs(), STATE);
            x.note();
            due("behind a note of no views", x.differs(), NONE);
        });
    }
}

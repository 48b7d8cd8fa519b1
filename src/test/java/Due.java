/**
 * What the tests by hand have in common: calls with the answers that are due, told by the sentence that they test.
 * The tests extend it, since names of a class without a package can't be imported.
 */
abstract class Due {
    static final int NONE = TwoWayTexts.NONE;
    static final int LONG = TwoWayTexts.LONG;
    static final String STATE = "IllegalStateException";
    static final String ARGUMENT = "IllegalArgumentException";
    static final String INDEX = "IndexOutOfBoundsException";
    static final String NOTHING = "nothing";

    private static int wrong = 0;
    private static int sentences = 0;
    private static String tested = "";

    interface Call {
        void make();
    }

    /** A call that takes a text. */
    interface TextCall {
        void make(TwoWayTexts x, int text);
    }

    /** A test of one sentence; what it throws against the sentence is told, and the others are tested still. */
    static void sentence(String where, String words, Call test) {
        sentences++;
        tested = where + ", \"" + words + "\"";
        try {
            test.make();
        } catch (RuntimeException e) {
            tell("a call throws " + e);
        }
    }

    /** Ends the program, with exit code 1 if an answer was not as due. */
    static void end() {
        System.out.println(sentences + " sentences tested, " + wrong + " answers not as due");
        if (wrong != 0) {
            System.exit(1);
        }
    }

    private static void tell(String what) {
        wrong++;
        System.out.println(tested + ": " + what);
    }

    static void due(String what, Object got, Object want) {
        if (!got.equals(want)) {
            tell(what + " is " + got + ", due is " + want);
        }
    }

    static void dueThrown(String what, Call call, String want) {
        String got = NOTHING;
        try {
            call.make();
        } catch (RuntimeException e) {
            got = e.getClass().getSimpleName();
        }
        due("what is thrown by " + what, got, want);
    }

    /** The number of a text, counted in the plainest way. */
    static int n(String text) {
        int number = 0;
        for (int i = 0; i < text.length(); i++) {
            number = 3 * number + text.charAt(i) - 'a' + 1;
        }
        return number;
    }

    static int four(String characters) {
        int result = 0;
        for (int i = 0; i < characters.length(); i++) {
            result |= characters.charAt(i) << 8 * i;
        }
        return result;
    }

    static void typeLine(TwoWayTexts x, String line) {
        for (int i = 0; i < line.length(); i += 4) {
            due("typing " + line, x.type(four(line.substring(i, Math.min(i + 4, line.length())))), true);
        }
    }

    static int compileLine(TwoWayTexts x, String line) {
        typeLine(x, line);
        return x.compile();
    }

    /** A new object with a program. */
    static TwoWayTexts with(String line) {
        TwoWayTexts x = new TwoWayTexts();
        due("compile of " + line, compileLine(x, line), 0);
        return x;
    }

    /** A new object with a program and a source that is kept. */
    static TwoWayTexts keeping(String line, String source) {
        TwoWayTexts x = with(line);
        due(line + " keeps " + source, x.keep(n(source)), true);
        return x;
    }

    static int putInto(String line, String source, String view) {
        return keeping(line, source).put(n(view));
    }

    static void dueGood(String... lines) {
        for (String line : lines) {
            due("compile of " + line, compileLine(new TwoWayTexts(), line), 0);
        }
    }

    static void dueFailure(String line, int place, int why, int witness) {
        TwoWayTexts x = new TwoWayTexts();
        due("compile of " + line, compileLine(x, line), place);
        due("why of " + line, x.why(), why);
        due("witness of " + line, x.witness(), witness);
        dueThrown("many(0) behind " + line, () -> x.many(0), STATE);
    }

    /** The line is no program, and this is the place + 1 where that shows. */
    static void dueNoProgram(String line, int place) {
        dueFailure(line, place, 1, NONE);
    }

    static void dueMany(String line, int sources, int views) {
        TwoWayTexts x = with(line);
        due("sources of " + line, x.many(0), sources);
        due("views of " + line, x.many(1), views);
    }

    /** Just these are the sources, each shown as the text behind it. */
    static void dueShown(String line, String... sourcesAndShown) {
        TwoWayTexts x = with(line);
        due("sources of " + line, x.many(0), sourcesAndShown.length / 2);
        for (int i = 0; i < sourcesAndShown.length; i += 2) {
            due(line + " of " + sourcesAndShown[i], x.get(n(sourcesAndShown[i])), n(sourcesAndShown[i + 1]));
        }
    }

    /** Just these are the views. */
    static void dueViews(String line, String... views) {
        TwoWayTexts x = with(line);
        due("views of " + line, x.many(1), views.length);
        for (String view : views) {
            due(view + " being a view of " + line, x.isView(n(view)), true);
        }
    }

    static void dueFrom(TwoWayTexts x, int... places) {
        for (int k = 0; k < 7; k++) {
            due("from(" + k + ")", x.from(k), k < places.length ? places[k] : NONE);
        }
    }

    /** No program: that is thrown, whatever the text is. */
    static void dueThrownWithoutProgram(String name, TextCall call) {
        TwoWayTexts fresh = new TwoWayTexts();
        TwoWayTexts failed = new TwoWayTexts();
        compileLine(failed, "a|a");
        for (int text : new int[] {0, 1092, -1, 1093}) {
            dueThrown(name + "(" + text + ") of a new object", () -> call.make(fresh, text), STATE);
            dueThrown(name + "(" + text + ") behind a line that failed", () -> call.make(failed, text), STATE);
        }
    }

    /** Texts are 0 to 1092. */
    static void dueThrownForNoText(String name, TwoWayTexts ready, TextCall call) {
        dueThrown(name + "(0)", () -> call.make(ready, 0), NOTHING);
        dueThrown(name + "(1092)", () -> call.make(ready, 1092), NOTHING);
        for (int text : new int[] {-1, -2, 1093, Integer.MIN_VALUE, Integer.MAX_VALUE}) {
            dueThrown(name + "(" + text + ")", () -> call.make(ready, text), INDEX);
        }
    }
}

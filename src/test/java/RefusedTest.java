import java.util.ArrayList;
import java.util.List;

/** A call that is refused changes nothing: an object that had it answers all that follows as one that had not. */
public final class RefusedTest extends Due {
    /** Of each part of a source the first letter is shown and named, the other is hidden, and two are added. */
    private static final String PROGRAM = "(=.-.+a+a)%";
    private static final String SHOWN_TOO_LONG = "abbcab";

    private interface Answer {
        Object of(TwoWayTexts x);
    }

    /** A way to bring a new object into a state; every call makes another object. */
    private interface State {
        TwoWayTexts make();
    }

    private static Object answerOrThrown(TwoWayTexts x, Answer call) {
        try {
            return call.of(x);
        } catch (RuntimeException e) {
            return e.getClass().getSimpleName();
        }
    }

    /** All that shows of a state; the calls that change it come last. */
    private static List<Object> whatShows(TwoWayTexts x) {
        List<Object> shows = new ArrayList<>();
        shows.add(x.why());
        shows.add(x.witness());
        for (int k = 0; k < 6; k++) {
            shows.add(x.from(k));
        }
        shows.add(answerOrThrown(x, y -> y.many(0)));
        shows.add(answerOrThrown(x, y -> y.many(1)));
        shows.add(answerOrThrown(x, y -> y.get(n("ab"))));
        shows.add(answerOrThrown(x, y -> y.differs()));
        shows.add(answerOrThrown(x, y -> y.put(n("baaaaa"))));
        shows.add(x.type(four("|b")));
        shows.add(x.type('|'));
        shows.add(x.compile());
        shows.add(x.why());
        shows.add(x.witness());
        shows.add(answerOrThrown(x, y -> y.many(0)));
        return shows;
    }

    private static void refused(String stateName, State state, String callName, Object want, Answer call) {
        sentence("Refused", callName + " " + stateName, () -> {
            TwoWayTexts x = state.make();
            due("the answer", answerOrThrown(x, call), want);
            due("what shows behind it", whatShows(x), whatShows(state.make()));
        });
    }

    private static TwoWayTexts typed(TwoWayTexts x, String line) {
        typeLine(x, line);
        return x;
    }

    private static TwoWayTexts failed(TwoWayTexts x) {
        due("compile of a|a", compileLine(x, "a|a"), 2);
        return typed(x, "a");
    }

    private static TwoWayTexts kept() {
        return typed(keeping(PROGRAM, "abbc"), "a");
    }

    private static TwoWayTexts noted() {
        TwoWayTexts x = with("aaa|c");
        x.note();
        compileLine(x, PROGRAM);
        return x;
    }

    private static TwoWayTexts put() {
        TwoWayTexts x = noted();
        due("keep", x.keep(n("abbc")), true);
        due("put", x.put(n("baaaaa")), n("bcab"));
        dueFrom(x, 1, 0);
        return x;
    }

    private static void wrongCharacters(String name, State state) {
        refused(name, state, "type of 31", ARGUMENT, x -> x.type(31));
        refused(name, state, "type of 127 behind good ones", ARGUMENT, x -> x.type(four("abc") | 127 << 24));
    }

    private static void noProgram(String name, State state) {
        wrongCharacters(name, state);
        refused(name, state, "many(0)", STATE, x -> x.many(0));
        refused(name, state, "isSource(0)", STATE, x -> x.isSource(0));
        refused(name, state, "isView(0)", STATE, x -> x.isView(0));
        refused(name, state, "get(0)", STATE, x -> x.get(0));
        refused(name, state, "keep(0)", STATE, x -> x.keep(0));
        refused(name, state, "put(0)", STATE, x -> x.put(0));
        refused(name, state, "create(0)", STATE, x -> x.create(0));
        refused(name, state, "key(0)", STATE, x -> x.key(0));
        refused(name, state, "note()", STATE, x -> x.note());
        refused(name, state, "differs()", STATE, x -> x.differs());
    }

    private static void wrongArguments(String name, State state) {
        wrongCharacters(name, state);
        refused(name, state, "many(-1)", ARGUMENT, x -> x.many(-1));
        refused(name, state, "many(2)", ARGUMENT, x -> x.many(2));
        for (int text : new int[] {-1, 1093}) {
            String of = "(" + text + ")";
            refused(name, state, "isSource" + of, INDEX, x -> x.isSource(text));
            refused(name, state, "isView" + of, INDEX, x -> x.isView(text));
            refused(name, state, "get" + of, INDEX, x -> x.get(text));
            refused(name, state, "keep" + of, INDEX, x -> x.keep(text));
            refused(name, state, "create" + of, INDEX, x -> x.create(text));
            refused(name, state, "key" + of, INDEX, x -> x.key(text));
        }
        refused(name, state, "keep of no source", false, x -> x.keep(n("a")));
        refused(name, state, "keep of what is shown too long", false, x -> x.keep(n(SHOWN_TOO_LONG)));
    }

    private static void wrongViews(String name, State state) {
        refused(name, state, "put(-1)", INDEX, x -> x.put(-1));
        refused(name, state, "put(1093)", INDEX, x -> x.put(1093));
    }

    private static void noRoom(String name, State state) {
        refused(name, state, "type of four more", false, x -> x.type(four("))))")));
        refused(name, state, "type of a wrong one behind good ones", ARGUMENT, x -> x.type(four(")))") | 31 << 24));
    }

    public static void main(String[] args) {
        noProgram("in a new object", TwoWayTexts::new);
        noProgram("behind some characters", () -> typed(new TwoWayTexts(), "a"));
        noProgram("behind a line that failed", () -> failed(new TwoWayTexts()));
        wrongArguments("with a program", () -> typed(with(PROGRAM), "a"));
        refused("with a program", () -> with(PROGRAM), "put with nothing kept", STATE, x -> x.put(0));
        refused("with a program", () -> with(PROGRAM), "differs with nothing noted", STATE, x -> x.differs());
        wrongArguments("with a source kept", RefusedTest::kept);
        wrongViews("with a source kept", RefusedTest::kept);
        refused("with a source kept", RefusedTest::kept, "differs with nothing noted", STATE, x -> x.differs());
        wrongArguments("with views noted", () -> typed(noted(), "a"));
        refused("with views noted", RefusedTest::noted, "put with nothing kept", STATE, x -> x.put(0));
        wrongArguments("behind a put", () -> typed(put(), "a"));
        wrongViews("behind a put", () -> typed(put(), "a"));
        wrongArguments("behind a put and a line that failed", () -> failed(put()));
        wrongViews("behind a put and a line that failed", () -> failed(put()));
        for (int length = 13; length <= 16; length++) {
            String line = "===============a".substring(16 - length);
            noRoom("at " + length + " characters", () -> typed(new TwoWayTexts(), line));
            noRoom("behind a put, at " + length + " characters", () -> typed(put(), line));
        }
        end();
    }
}

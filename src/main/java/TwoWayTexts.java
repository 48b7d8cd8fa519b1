import java.util.Arrays;

/** Small programs that show texts in another form and carry a changed form back; see README.md. */
public final class TwoWayTexts {
    public static final int NONE = -1;
    public static final int LONG = -2;

    private static final int LINE_LIMIT = 16;
    private static final int BRACKET_LIMIT = 4;
    /** A line of n one-character atoms has n parts and n - 1 joinings; no line of that length has more. */
    private static final int PART_LIMIT = 2 * LINE_LIMIT - 1;
    /** Each level of parts takes a character of the line, so that no good call comes near this. */
    private static final int DEEPEST = 40;

    private static final int EMPTY = 0;
    private static final int LONGEST = 6;
    private static final int TEXT_COUNT = 1093;
    /** The number of the first text of each length, and of the first that is too long. */
    private static final int[] STARTS = {0, 1, 4, 13, 40, 121, 364, 1093};
    /** How many texts of each length there are. */
    private static final int[] POWERS = {1, 3, 9, 27, 81, 243, 729};

    private static final int COPY = 0;
    private static final int HIDE = 1;
    private static final int ADD = 2;
    private static final int NAME = 3;
    private static final int CHOICE = 4;
    private static final int JOIN = 5;
    private static final int EXCHANGE = 6;
    private static final int BY_PLACE = 7;
    private static final int BY_KEY = 8;

    private static final int GOOD = 0;
    private static final int NO_PROGRAM = 1;
    private static final int SOURCE_PARTED_TWICE = 2;
    private static final int VIEW_PARTED_TWICE = 3;
    private static final int SOURCE_REPEATED_TWICE = 4;
    private static final int VIEW_REPEATED_TWICE = 5;
    private static final int SOURCE_OF_BOTH = 6;

    private final char[] line = new char[LINE_LIMIT];
    private int lineLength = 0;
    private final Joiner joiner = new Joiner();
    private Program program = new Program();
    /** A line is read into this one, so that the program survives a line that fails. */
    private Program spare = new Program();
    private boolean compiled = false;
    private int fault = GOOD;
    private int doubt = NONE;
    private int kept = NONE;
    private final int[] origins = new int[LONGEST];
    private int originCount = 0;
    private final TextSet notedViews = new TextSet();
    private boolean noted = false;

    public TwoWayTexts() {
    }

    public boolean type(int four) throws IllegalArgumentException {
        int count = 0;
        while (count < 4 && byteOf(four, count) != 0) {
            int code = byteOf(four, count);
            if (code < 32 || code > 126) {
                throw new IllegalArgumentException("a character is not 32 .. 126");
            }
            count++;
        }
        if (lineLength + count > LINE_LIMIT) {
            return false;
        }
        for (int i = 0; i < count; i++) {
            line[lineLength + i] = (char) byteOf(four, i);
        }
        lineLength += count;
        return true;
    }

    public int compile() {
        int length = lineLength;
        lineLength = 0;
        fault = GOOD;
        doubt = NONE;
        if (!spare.read(line, length)) {
            fault = NO_PROGRAM;
            return spare.at + 1;
        }
        Part bad = spare.firstBadPart(joiner);
        if (bad != null) {
            fault = bad.fault;
            doubt = bad.doubt;
            return bad.place + 1;
        }
        takeSpareProgram();
        return 0;
    }

    public int why() {
        return fault;
    }

    public int witness() {
        return doubt;
    }

    public int many(int which) throws IllegalStateException, IllegalArgumentException {
        requireProgram();
        if (which != 0 && which != 1) {
            throw new IllegalArgumentException("neither 0 (sources) nor 1 (views)");
        }
        return which == 0 ? program.whole.sources.size() : program.whole.views.size();
    }

    public boolean isSource(int text) throws IllegalStateException, IndexOutOfBoundsException {
        requireProgram();
        requireText(text);
        return program.whole.sources.has(text);
    }

    public boolean isView(int text) throws IllegalStateException, IndexOutOfBoundsException {
        requireProgram();
        requireText(text);
        return program.whole.views.has(text);
    }

    public int get(int text) throws IllegalStateException, IndexOutOfBoundsException {
        requireProgram();
        requireText(text);
        return shownOrNone(text);
    }

    public boolean keep(int text) throws IllegalStateException, IndexOutOfBoundsException {
        requireProgram();
        requireText(text);
        if (shownOrNone(text) < 0) {
            return false;
        }
        kept = text;
        return true;
    }

    public int put(int view) throws IllegalStateException, IndexOutOfBoundsException {
        requireProgram();
        if (kept == NONE) {
            throw new IllegalStateException("nothing is kept");
        }
        requireText(view);
        originCount = 0;
        Part whole = program.whole;
        if (!whole.views.has(view)) {
            return NONE;
        }
        int answer = whole.putInto(kept, view, 0);
        if (answer >= 0 && whole.repeats()) {
            originCount = whole.originsInto(origins);
        }
        return answer;
    }

    public int create(int view) throws IllegalStateException, IndexOutOfBoundsException {
        requireProgram();
        requireText(view);
        originCount = 0;
        Part whole = program.whole;
        return whole.views.has(view) ? whole.created(view, 0) : NONE;
    }

    public int from(int k) {
        return k >= 0 && k < originCount ? origins[k] : NONE;
    }

    public int key(int view) throws IllegalStateException, IndexOutOfBoundsException {
        requireProgram();
        requireText(view);
        Part whole = program.whole;
        return whole.views.has(view) ? whole.keyOf(view, 0) : NONE;
    }

    public int note() throws IllegalStateException {
        requireProgram();
        notedViews.copy(program.whole.views);
        noted = true;
        return notedViews.size();
    }

    public int differs() throws IllegalStateException {
        requireProgram();
        if (!noted) {
            throw new IllegalStateException("nothing was noted");
        }
        return notedViews.leastInOneOf(program.whole.views);
    }

    private void requireProgram() {
        if (!compiled) {
            throw new IllegalStateException("there is no program");
        }
    }

    private static void requireText(int text) {
        if (text < 0 || text >= TEXT_COUNT) {
            throw new IndexOutOfBoundsException("there is no such text");
        }
    }

    private static int byteOf(int four, int place) {
        return four >>> 8 * place & 255;
    }

    private void takeSpareProgram() {
        Program old = program;
        program = spare;
        spare = old;
        compiled = true;
        kept = NONE;
        originCount = 0;
    }

    private int shownOrNone(int text) {
        Part whole = program.whole;
        return whole.sources.has(text) ? whole.shown(text, 0) : NONE;
    }

    /** Texts by their numbers. */
    private static final class Texts {
        static int lengthOf(int text) {
            int length = 0;
            while (length < LONGEST && text >= STARTS[length + 1]) {
                length++;
            }
            return length;
        }

        /** LONG when it is too long, or when one of the two already was. */
        static int joined(int front, int back) {
            if (front < 0 || back < 0) {
                return LONG;
            }
            int frontLength = lengthOf(front);
            int backLength = lengthOf(back);
            if (frontLength + backLength > LONGEST) {
                return LONG;
            }
            return STARTS[frontLength + backLength]
                + (front - STARTS[frontLength]) * POWERS[backLength] + back - STARTS[backLength];
        }

        /** The front of a text in its one way to be parted; NONE when there is no way. */
        static int frontOf(int text, TextSet fronts, TextSet backs) {
            int length = lengthOf(text);
            int letters = text - STARTS[length];
            for (int i = 0; i <= length; i++) {
                int rest = length - i;
                int front = STARTS[i] + letters / POWERS[rest];
                if (fronts.has(front) && backs.has(STARTS[rest] + letters % POWERS[rest])) {
                    return front;
                }
            }
            return NONE;
        }

        /** What stands behind a front of a text. */
        static int behind(int text, int front) {
            int length = lengthOf(text);
            int rest = Math.max(length - lengthOf(front), 0);
            return STARTS[rest] + (text - STARTS[length]) % POWERS[rest];
        }

        /** The parts of a text that is made of such, in order; the answer is how many. */
        static int partsInto(int[] row, int text, TextSet parts, TextSet wholes) {
            int rest = text;
            int count = 0;
            while (count < row.length && rest > EMPTY) {
                row[count] = frontOf(rest, parts, wholes);
                rest = behind(rest, row[count]);
                count++;
            }
            return count;
        }
    }

    /** A set of texts, a bit for each. */
    private static final class TextSet {
        private static final int WORDS = (TEXT_COUNT + 63) / 64;

        private final long[] words = new long[WORDS];

        void clear() {
            Arrays.fill(words, 0L);
        }

        boolean has(int text) {
            return text >= 0 && text < TEXT_COUNT && (words[text >> 6] >>> text & 1L) != 0L;
        }

        void add(int text) {
            if (text >= 0 && text < TEXT_COUNT) {
                words[text >> 6] |= 1L << text;
            }
        }

        void addAll(TextSet other) {
            for (int i = 0; i < WORDS; i++) {
                words[i] |= other.words[i];
            }
        }

        void copy(TextSet other) {
            System.arraycopy(other.words, 0, words, 0, WORDS);
        }

        int size() {
            int size = 0;
            for (int i = 0; i < WORDS; i++) {
                size += Long.bitCount(words[i]);
            }
            return size;
        }

        int leastInBoth(TextSet other) {
            for (int i = 0; i < WORDS; i++) {
                long both = words[i] & other.words[i];
                if (both != 0L) {
                    return 64 * i + lowestBit(both);
                }
            }
            return NONE;
        }

        int leastInOneOf(TextSet other) {
            for (int i = 0; i < WORDS; i++) {
                long one = words[i] ^ other.words[i];
                if (one != 0L) {
                    return 64 * i + lowestBit(one);
                }
            }
            return NONE;
        }

        /** The texts in order of their numbers; the answer is how many. */
        int listInto(int[] row) {
            int count = 0;
            for (int i = 0; i < WORDS; i++) {
                long left = words[i];
                for (int bit = 0; bit < 64 && left != 0L; bit++) {
                    if ((left & 1L) != 0L && count < row.length) {
                        row[count] = 64 * i + bit;
                        count++;
                    }
                    left >>>= 1;
                }
            }
            return count;
        }

        private static int lowestBit(long word) {
            return Long.bitCount((word & -word) - 1L);
        }
    }

    /** Joins sets of texts and tells the least text that comes up twice; its rows are used again. */
    private static final class Joiner {
        private final int[] fronts = new int[TEXT_COUNT];
        private final int[] backs = new int[TEXT_COUNT];
        private int backCount = 0;
        private int twice = NONE;

        /** The least text with two ways, or NONE. */
        int join(TextSet front, TextSet back, TextSet result) {
            int frontCount = front.listInto(fronts);
            backCount = back.listInto(backs);
            twice = NONE;
            result.clear();
            for (int i = 0; i < frontCount; i++) {
                addJoined(fronts[i], result);
            }
            return twice;
        }

        /** The least text with two ways, or NONE. */
        int repeat(TextSet part, TextSet result) {
            backCount = part.listInto(backs);
            twice = part.has(EMPTY) ? EMPTY : NONE;
            result.clear();
            result.add(EMPTY);
            // What a text is lengthened to has a greater number, so that one walk upwards meets every text;
            // those of the greatest length can't be lengthened.
            for (int text = 0; text < STARTS[LONGEST] && twice != EMPTY; text++) {
                if (result.has(text)) {
                    addJoined(text, result);
                }
            }
            return twice;
        }

        private void addJoined(int front, TextSet result) {
            int frontLength = Texts.lengthOf(front);
            int letters = front - STARTS[frontLength];
            int i = 0;
            for (int length = 0; length <= LONGEST - frontLength; length++) {
                // All backs of a length are as far from what they become behind this front.
                int distance = STARTS[frontLength + length] + letters * POWERS[length] - STARTS[length];
                for (; i < backCount && backs[i] < STARTS[length + 1]; i++) {
                    addAndLook(backs[i] + distance, result);
                }
            }
        }

        private void addAndLook(int text, TextSet result) {
            if (!result.has(text)) {
                result.add(text);
            } else if (twice == NONE || text < twice) {
                twice = text;
            }
        }
    }

    /** A part of a program; the objects and their rows are made once and used again for other programs. */
    private static final class Part {
        private int kind = COPY;
        /** The place in the line that is told when the part is not good. */
        private int place = 0;
        /** Of letters, - and +; 0 for any letter. */
        private int letter = 0;
        /** Never null once the part has become something: an atom names itself. */
        private Part first;
        private Part second;
        private final TextSet sources = new TextSet();
        private final TextSet views = new TextSet();
        private int fault = GOOD;
        private int doubt = NONE;
        // The rows for putting into * and %. One set of rows for a part is enough: while a part is being put,
        // only parts within it are.
        private final int[] sourceParts = new int[LONGEST];
        private final int[] sourceKeys = new int[LONGEST];
        private final int[] viewParts = new int[LONGEST];
        private final int[] origins = new int[LONGEST];
        private int viewPartCount = 0;

        void becomeAtom(int newKind, int newLetter) {
            kind = newKind;
            letter = newLetter;
            first = this;
            second = this;
        }

        void becomeCompound(int newKind, Part newFirst, Part newSecond, int newPlace) {
            kind = newKind;
            first = newFirst;
            second = newSecond;
            place = newPlace;
        }

        boolean repeats() {
            return kind == BY_PLACE || kind == BY_KEY;
        }

        /** Finds the sources and views from those of the parts within; false when the part is not good. */
        boolean settle(Joiner joiner) {
            fault = GOOD;
            doubt = NONE;
            switch (kind) {
                case NAME:
                    sources.copy(first.sources);
                    views.copy(first.views);
                    break;
                case CHOICE:
                    settleChoice();
                    break;
                case JOIN:
                case EXCHANGE:
                    settlePair(joiner);
                    break;
                case BY_PLACE:
                case BY_KEY:
                    settleRepeat(joiner);
                    break;
                default:
                    settleAtom();
                    break;
            }
            return fault == GOOD;
        }

        private void settleAtom() {
            sources.clear();
            views.clear();
            addLetters(kind == ADD ? views : sources);
            if (kind == COPY) {
                addLetters(views);
            } else if (kind == HIDE) {
                views.add(EMPTY);
            } else {
                sources.add(EMPTY);
            }
        }

        private void addLetters(TextSet set) {
            for (int one = 1; one <= 3; one++) {
                if (letter == 0 || letter == one) {
                    set.add(one);
                }
            }
        }

        private void settleChoice() {
            blame(SOURCE_OF_BOTH, first.sources.leastInBoth(second.sources));
            sources.copy(first.sources);
            sources.addAll(second.sources);
            views.copy(first.views);
            views.addAll(second.views);
        }

        private void settlePair(Joiner joiner) {
            blame(SOURCE_PARTED_TWICE, joiner.join(first.sources, second.sources, sources));
            if (fault == GOOD) {
                blame(VIEW_PARTED_TWICE, joiner.join(frontPart().views, backPart().views, views));
            }
        }

        private void settleRepeat(Joiner joiner) {
            blame(SOURCE_REPEATED_TWICE, joiner.repeat(first.sources, sources));
            if (fault == GOOD) {
                blame(VIEW_REPEATED_TWICE, joiner.repeat(first.views, views));
            }
        }

        private void blame(int newFault, int text) {
            if (text != NONE) {
                fault = newFault;
                doubt = text;
            }
        }

        /** The one whose view stands in front. */
        private Part frontPart() {
            return kind == EXCHANGE ? second : first;
        }

        private Part backPart() {
            return kind == EXCHANGE ? first : second;
        }

        private Part partOfSource(int source) {
            return first.sources.has(source) ? first : second;
        }

        private Part partOfView(int view) {
            return first.views.has(view) ? first : second;
        }

        /** What is shown of a source, or LONG. */
        int shown(int source, int deep) {
            if (deep > DEEPEST) {
                return NONE;
            }
            switch (kind) {
                case COPY:
                    return source;
                case HIDE:
                    return EMPTY;
                case ADD:
                    return letter;
                case NAME:
                    return first.shown(source, deep + 1);
                case CHOICE:
                    return partOfSource(source).shown(source, deep + 1);
                case JOIN:
                case EXCHANGE:
                    return shownPair(source, deep);
                default:
                    return shownRepeat(source, deep);
            }
        }

        private int shownPair(int source, int deep) {
            int front = Texts.frontOf(source, first.sources, second.sources);
            int ofFirst = first.shown(front, deep + 1);
            int ofSecond = second.shown(Texts.behind(source, front), deep + 1);
            return kind == EXCHANGE ? Texts.joined(ofSecond, ofFirst) : Texts.joined(ofFirst, ofSecond);
        }

        private int shownRepeat(int source, int deep) {
            int result = EMPTY;
            int rest = source;
            for (int i = 0; i < LONGEST && rest > EMPTY; i++) {
                int front = Texts.frontOf(rest, first.sources, sources);
                result = Texts.joined(result, first.shown(front, deep + 1));
                rest = Texts.behind(rest, front);
            }
            return result;
        }

        /** The source created from a view, or LONG. */
        int created(int view, int deep) {
            if (deep > DEEPEST) {
                return NONE;
            }
            switch (kind) {
                case COPY:
                    return view;
                case HIDE:
                    return letter == 0 ? 1 : letter;
                case ADD:
                    return EMPTY;
                case NAME:
                    return first.created(view, deep + 1);
                case CHOICE:
                    return partOfView(view).created(view, deep + 1);
                case JOIN:
                case EXCHANGE:
                    return createdPair(view, deep);
                default:
                    return createdRepeat(view, deep);
            }
        }

        private int createdPair(int view, int deep) {
            int front = Texts.frontOf(view, frontPart().views, backPart().views);
            int ofFront = frontPart().created(front, deep + 1);
            int ofBack = backPart().created(Texts.behind(view, front), deep + 1);
            return kind == EXCHANGE ? Texts.joined(ofBack, ofFront) : Texts.joined(ofFront, ofBack);
        }

        private int createdRepeat(int view, int deep) {
            int result = EMPTY;
            int rest = view;
            for (int i = 0; i < LONGEST && rest > EMPTY; i++) {
                int front = Texts.frontOf(rest, first.views, views);
                result = Texts.joined(result, first.created(front, deep + 1));
                rest = Texts.behind(rest, front);
            }
            return result;
        }

        /** The key of a view. */
        int keyOf(int view, int deep) {
            if (deep > DEEPEST) {
                return NONE;
            }
            switch (kind) {
                case NAME:
                    return view;
                case CHOICE:
                    return partOfView(view).keyOf(view, deep + 1);
                case JOIN:
                case EXCHANGE:
                    return keyOfPair(view, deep);
                case BY_PLACE:
                case BY_KEY:
                    return keyOfRepeat(view, deep);
                default:
                    return EMPTY;
            }
        }

        private int keyOfPair(int view, int deep) {
            int front = Texts.frontOf(view, frontPart().views, backPart().views);
            int ofFront = frontPart().keyOf(front, deep + 1);
            int ofBack = backPart().keyOf(Texts.behind(view, front), deep + 1);
            return kind == EXCHANGE ? Texts.joined(ofBack, ofFront) : Texts.joined(ofFront, ofBack);
        }

        private int keyOfRepeat(int view, int deep) {
            int result = EMPTY;
            int rest = view;
            for (int i = 0; i < LONGEST && rest > EMPTY; i++) {
                int front = Texts.frontOf(rest, first.views, views);
                result = Texts.joined(result, first.keyOf(front, deep + 1));
                rest = Texts.behind(rest, front);
            }
            return result;
        }

        /** The source that comes when a view is put into a source of which no more than a text is shown, or LONG. */
        int putInto(int source, int view, int deep) {
            if (deep > DEEPEST) {
                return NONE;
            }
            switch (kind) {
                case COPY:
                    return view;
                case HIDE:
                    return source;
                case ADD:
                    return EMPTY;
                case NAME:
                    return first.putInto(source, view, deep + 1);
                case CHOICE:
                    return putIntoChoice(source, view, deep);
                case JOIN:
                case EXCHANGE:
                    return putIntoPair(source, view, deep);
                default:
                    return putIntoRepeat(source, view, deep);
            }
        }

        private int putIntoChoice(int source, int view, int deep) {
            Part own = partOfSource(source);
            if (own.views.has(view)) {
                return own.putInto(source, view, deep + 1);
            }
            Part other = own == first ? second : first;
            return other.created(view, deep + 1);
        }

        private int putIntoPair(int source, int view, int deep) {
            int frontSource = Texts.frontOf(source, first.sources, second.sources);
            int backSource = Texts.behind(source, frontSource);
            int frontView = Texts.frontOf(view, frontPart().views, backPart().views);
            int backView = Texts.behind(view, frontView);
            boolean crossed = kind == EXCHANGE;
            int ofFirst = first.putInto(frontSource, crossed ? backView : frontView, deep + 1);
            int ofSecond = second.putInto(backSource, crossed ? frontView : backView, deep + 1);
            return Texts.joined(ofFirst, ofSecond);
        }

        private int putIntoRepeat(int source, int view, int deep) {
            int sourcePartCount = Texts.partsInto(sourceParts, source, first.sources, sources);
            viewPartCount = Texts.partsInto(viewParts, view, first.views, views);
            if (kind == BY_KEY) {
                findOriginsByKey(sourcePartCount, deep);
            } else {
                findOriginsByPlace(sourcePartCount);
            }
            int result = EMPTY;
            for (int i = 0; i < viewPartCount; i++) {
                int origin = origins[i];
                int part = origin == NONE
                    ? first.created(viewParts[i], deep + 1)
                    : first.putInto(sourceParts[origin], viewParts[i], deep + 1);
                result = Texts.joined(result, part);
            }
            return result;
        }

        private void findOriginsByPlace(int sourcePartCount) {
            for (int i = 0; i < viewPartCount; i++) {
                origins[i] = i < sourcePartCount ? i : NONE;
            }
        }

        private void findOriginsByKey(int sourcePartCount, int deep) {
            for (int i = 0; i < sourcePartCount; i++) {
                sourceKeys[i] = first.keyOf(first.shown(sourceParts[i], deep + 1), deep + 1);
            }
            for (int i = 0; i < viewPartCount; i++) {
                origins[i] = takeKey(first.keyOf(viewParts[i], deep + 1), sourcePartCount);
            }
        }

        /** The first place with a key that is not taken yet: so the j-th with a key meets the j-th one. */
        private int takeKey(int wanted, int sourcePartCount) {
            for (int i = 0; i < sourcePartCount; i++) {
                if (sourceKeys[i] == wanted) {
                    sourceKeys[i] = NONE;
                    return i;
                }
            }
            return NONE;
        }

        /** Where the parts of the latest view that was put went; the answer is how many they are. */
        int originsInto(int[] row) {
            System.arraycopy(origins, 0, row, 0, LONGEST);
            return viewPartCount;
        }
    }

    /** A line and its parts, these in the order in which they are looked at: those that end earlier first. */
    private static final class Program {
        private static final char END = 0;

        private final char[] line = new char[LINE_LIMIT];
        private int length = 0;
        /** The place that is read next; behind a line that failed, the place where it did. */
        private int at = 0;
        private final Part[] parts = new Part[PART_LIMIT];
        private int count = 0;
        private Part whole;

        Program() {
            for (int i = 0; i < PART_LIMIT; i++) {
                parts[i] = new Part();
                parts[i].becomeAtom(COPY, 0);
            }
            whole = parts[0];
        }

        /** False when the line is no program. */
        boolean read(char[] newLine, int newLength) {
            length = Math.min(newLength, LINE_LIMIT);
            System.arraycopy(newLine, 0, line, 0, length);
            at = 0;
            count = 0;
            Part read = sum(0);
            if (read == null || at < length) {
                return false;
            }
            whole = read;
            return true;
        }

        /** Null when all are good. */
        Part firstBadPart(Joiner joiner) {
            for (int i = 0; i < count; i++) {
                if (!parts[i].settle(joiner)) {
                    return parts[i];
                }
            }
            return null;
        }

        // Each function that reads answers null when it stopped at a character that can't stand there.

        private Part sum(int open) {
            Part left = chain(open);
            for (int i = 0; i < LINE_LIMIT && left != null && here() == '|'; i++) {
                int sign = at;
                at++;
                left = compound(CHOICE, left, chain(open), sign);
            }
            return left;
        }

        private Part chain(int open) {
            Part left = piece(open);
            for (int i = 0; i < LINE_LIMIT && left != null && startsAtom(here()); i++) {
                int start = at;
                left = compound(JOIN, left, piece(open), start);
            }
            return left;
        }

        private Part piece(int open) {
            Part inner = atom(open);
            char sign = here();
            if (inner == null || sign != '*' && sign != '%') {
                return inner;
            }
            at++;
            return compound(sign == '*' ? BY_PLACE : BY_KEY, inner, inner, at - 1);
        }

        /** Goes deeper only behind a sign that it has read: the line's length bounds how deep. */
        private Part atom(int open) {
            switch (here()) {
                case '(':
                    return bracket(open);
                case '^':
                    int sign = at;
                    at++;
                    Part first = atom(open);
                    return first == null ? null : compound(EXCHANGE, first, atom(open), sign);
                case '=':
                    at++;
                    Part named = atom(open);
                    // Its place is never told: it is good when what it names is.
                    return compound(NAME, named, named, at);
                case '-':
                    at++;
                    return isLetter(here()) || here() == '.' ? letter(HIDE) : null;
                case '+':
                    at++;
                    return isLetter(here()) ? letter(ADD) : null;
                default:
                    return isLetter(here()) || here() == '.' ? letter(COPY) : null;
            }
        }

        private Part bracket(int open) {
            if (open >= BRACKET_LIMIT) {
                return null;
            }
            at++;
            Part inner = sum(open + 1);
            if (inner == null || here() != ')') {
                return null;
            }
            at++;
            return inner;
        }

        private Part letter(int kind) {
            int letter = here() == '.' ? 0 : here() - 'a' + 1;
            at++;
            Part part = nextPart();
            if (part != null) {
                part.becomeAtom(kind, letter);
            }
            return part;
        }

        private Part compound(int kind, Part first, Part second, int place) {
            if (first == null || second == null) {
                return null;
            }
            Part part = nextPart();
            if (part != null) {
                part.becomeCompound(kind, first, second, place);
            }
            return part;
        }

        private Part nextPart() {
            if (count >= PART_LIMIT) {
                return null;
            }
            count++;
            return parts[count - 1];
        }

        private char here() {
            return at < length ? line[at] : END;
        }

        private static boolean isLetter(char sign) {
            return sign >= 'a' && sign <= 'c';
        }

        private static boolean startsAtom(char sign) {
            return isLetter(sign) || sign == '.' || sign == '-' || sign == '+' || sign == '^' || sign == '='
                || sign == '(';
        }
    }
}

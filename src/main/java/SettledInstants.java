/**
 * A small synchronous reactive language with constructive semantics: programs are read from texts,
 * and their instants are settled by a must/can analysis, executed, undone, explored and compared.
 */
public final class SettledInstants {
    public static final int NONE = -1, UNKNOWN = -1000001, OUTSIDE = -1000002, NOT = -1000003, FULL = -1000004;

    private static final int START = 1048576, ENDED = 0;
    private static final int SIGNALS = 8, ALL_SIGNALS = 255, LOCAL_UNSETTLED = 256;
    private static final int MOST_BYTES = 120, MOST_STATEMENTS = 60, MOST_PAUSE_POINTS = 20;
    private static final int MOST_BRACKETS = 12, MOST_LOCALS = 3, MOST_UNDONE = 20;
    private static final int MOST_STATES = 100, MOST_PAIRS = 200, MOST_SUBSETS = 8;
    private static final int PLACES = 2;
    /** The number of a branch that was omitted; it behaves as nothing does. */
    private static final int NO_STATEMENT = -1;
    private static final int END_OF_TEXT = -1;

    private final Text text;
    private final Reader reader;
    private final Place[] places;
    private final Outcome outcome;
    private final Outcome otherOutcome;
    private final Reached reached;
    private final Chart chart;
    private int lastFault;

    public SettledInstants() {
        text = new Text();
        reader = new Reader(text);
        places = new Place[PLACES];
        for (int place = 0; place < PLACES; place++) {
            places[place] = new Place();
        }
        outcome = new Outcome();
        otherOutcome = new Outcome();
        reached = new Reached();
        chart = new Chart();
        lastFault = Reader.SOUND;
    }

    public int write(int letter) {
        if (letter < 0 || letter > 255) {
            return OUTSIDE;
        }
        if (text.length() >= MOST_BYTES) {
            return FULL;
        }
        text.append(letter);
        return text.length();
    }

    public int erase() {
        int length = text.length();
        text.clear();
        return length;
    }

    public int program(int place) {
        Place here = placeAt(place);
        if (here == null) {
            return UNKNOWN;
        }
        reader.readText();
        text.clear();
        lastFault = reader.faultKind();
        if (lastFault != Reader.SOUND) {
            return -100 - reader.faultPlace();
        }
        here.load(reader.exchange(here.tree()));
        return here.tree().pausePoints();
    }

    public int fault() {
        return lastFault;
    }

    public int instant(int place, int outside) {
        Place here = filledPlace(place);
        if (here == null) {
            return UNKNOWN;
        }
        if (!isSignalSet(outside)) {
            return OUTSIDE;
        }
        outcome.determine(here.tree(), here.now(), outside);
        if (outcome.isRejected()) {
            return NOT;
        }
        here.advance(outcome.next());
        return outcome.present();
    }

    public int undo(int place) {
        Place here = filledPlace(place);
        if (here == null) {
            return UNKNOWN;
        }
        if (here.undoable() == 0) {
            return NOT;
        }
        here.goBack();
        return here.undoable();
    }

    public int restart(int place) {
        Place here = filledPlace(place);
        if (here == null) {
            return UNKNOWN;
        }
        int before = here.now();
        here.beginAnew();
        return before;
    }

    public int state(int place) {
        Place here = filledPlace(place);
        return here == null ? UNKNOWN : here.now();
    }

    public int would(int place, int outside, int what) {
        Place here = filledPlace(place);
        if (here == null) {
            return UNKNOWN;
        }
        if (!isSignalSet(outside) || what < 0 || what > 4) {
            return OUTSIDE;
        }
        outcome.determine(here.tree(), here.now(), outside);
        if (what == 1) {
            return outcome.unsettled();
        }
        if (what == 4) {
            return outcome.rounds();
        }
        if (outcome.isRejected()) {
            return NOT;
        }
        if (what == 0) {
            return outcome.present();
        }
        return what == 2 ? outcome.code() : outcome.next();
    }

    public int found(int place, int there, int notThere, int what) {
        Place here = filledPlace(place);
        if (here == null) {
            return UNKNOWN;
        }
        if (!isSignalSet(there) || !isSignalSet(notThere) || (there & notThere) != 0 || what < 0 || what > 3) {
            return OUTSIDE;
        }
        if (here.now() == ENDED) {
            return NOT;
        }
        int result = Analysis.ofProgram(here.tree(), here.now(), Analysis.knowledge(there, notThere));
        int effects = what == 0 || what == 2 ? Analysis.must(result) : Analysis.can(result);
        return what < 2 ? Analysis.signals(effects) : Analysis.codes(effects);
    }

    public int waits(int place, int outside, int signal) {
        Place here = filledPlace(place);
        if (here == null) {
            return UNKNOWN;
        }
        if (!isSignalSet(outside) || signal < 0 || signal >= SIGNALS) {
            return OUTSIDE;
        }
        outcome.determine(here.tree(), here.now(), outside);
        return outcome.waitedFor(here.tree(), here.now(), signal);
    }

    public int ring(int place, int outside) {
        Place here = filledPlace(place);
        if (here == null) {
            return UNKNOWN;
        }
        if (!isSignalSet(outside)) {
            return OUTSIDE;
        }
        outcome.determine(here.tree(), here.now(), outside);
        if ((outcome.unsettled() & ALL_SIGNALS) == 0) {
            return NONE;
        }
        return outcome.circle(here.tree(), here.now());
    }

    public int states(int place, int mask, int what) {
        Place here = filledPlace(place);
        if (here == null) {
            return UNKNOWN;
        }
        if (!isMask(mask) || what < 0 || what > 2) {
            return OUTSIDE;
        }
        if (!drawChart(here.tree(), mask)) {
            return FULL;
        }
        if (what == 0) {
            return chart.size();
        }
        return what == 1 ? chart.classes() : chart.rejections();
    }

    public int soon(int place, int mask, int what) {
        Place here = filledPlace(place);
        if (here == null) {
            return UNKNOWN;
        }
        if (!isMask(mask) || what < 0 || what > 9 || what < SIGNALS && (mask >> what & 1) != 0) {
            return OUTSIDE;
        }
        reached.begin(MOST_STATES, here.now(), 0);
        for (int index = 0; index < MOST_STATES && index < reached.size(); index++) {
            int answer = seekFrom(here.tree(), index, mask, what);
            if (answer != NONE) {
                return answer;
            }
        }
        return NONE;
    }

    public int part(int mask) {
        Place one = filledPlace(0);
        Place two = filledPlace(1);
        if (one == null || two == null) {
            return UNKNOWN;
        }
        if (!isMask(mask)) {
            return OUTSIDE;
        }
        reached.begin(MOST_PAIRS, START, START);
        for (int index = 0; index < MOST_PAIRS && index < reached.size(); index++) {
            int answer = compareFrom(one.tree(), two.tree(), index, mask);
            if (answer != NONE) {
                return answer;
            }
        }
        return NONE;
    }

    public int node(int place, int node, int what) {
        Place here = filledPlace(place);
        if (here == null || !here.tree().has(node)) {
            return UNKNOWN;
        }
        Tree tree = here.tree();
        switch (what) {
            case 0:
                return tree.tokenOf(node);
            case 1:
                return tree.detailOf(node);
            case 2:
                return tree.pausesOf(node);
            case 3:
                return tree.containedIn(node);
            case 4:
                return Analysis.instantaneousCodes(tree, node);
            case 5:
                return tree.containing(node);
            default:
                return OUTSIDE;
        }
    }

    public int count(int place, int what) {
        Place here = filledPlace(place);
        if (here == null) {
            return UNKNOWN;
        }
        switch (what) {
            case 0:
                return here.tree().size();
            case 1:
                return here.tree().pausePoints();
            case 2:
                return here.now() == START ? 0 : Integer.bitCount(here.now());
            case 3:
                return here.undoable();
            case 4:
                return text.length();
            default:
                return OUTSIDE;
        }
    }

    private Place placeAt(int place) {
        return place >= 0 && place < places.length ? places[place] : null;
    }

    /** The place if there is a program at it, otherwise null. */
    private Place filledPlace(int place) {
        Place here = placeAt(place);
        return here != null && here.isFilled() ? here : null;
    }

    private static boolean isSignalSet(int set) {
        return set >= 0 && set <= ALL_SIGNALS;
    }

    private static boolean isMask(int mask) {
        return isSignalSet(mask) && mask != 0 && Integer.bitCount(mask) <= 3;
    }

    /** At most MOST_SUBSETS for a mask. */
    private static int subsetsOf(int mask) {
        return Math.min(MOST_SUBSETS, 1 << Integer.bitCount(mask));
    }

    /** The subtraction borrows through the signals outside the mask, so it counts within the mask. */
    private static int subsetAfter(int subset, int mask) {
        return (subset - mask) & mask;
    }

    /** False if more states are reached than may be. */
    private boolean drawChart(Tree tree, int mask) {
        int width = subsetsOf(mask);
        reached.begin(MOST_STATES, START, 0);
        chart.begin(width);
        for (int row = 0; row < MOST_STATES && row < reached.size(); row++) {
            int subset = 0;
            for (int column = 0; column < width; column++) {
                outcome.determine(tree, reached.firstAt(row), subset);
                int next = outcome.isRejected() ? row : reached.reach(outcome.next(), 0, 0);
                if (next == NONE) {
                    return false;
                }
                chart.enter(row, column, outcome.isRejected() ? Chart.REJECTED : outcome.present(), next);
                subset = subsetAfter(subset, mask);
            }
        }
        return true;
    }

    /** The number of instants, FULL, or NONE if the search must go on. */
    private int seekFrom(Tree tree, int index, int mask, int what) {
        int steps = reached.stepsAt(index) + 1;
        int subset = 0;
        for (int turn = 0; turn < subsetsOf(mask); turn++) {
            outcome.determine(tree, reached.firstAt(index), subset);
            if (outcome.shows(what)) {
                return steps;
            }
            if (!outcome.isRejected() && reached.reach(outcome.next(), 0, steps) == NONE) {
                return FULL;
            }
            subset = subsetAfter(subset, mask);
        }
        return NONE;
    }

    /** The number of instants, FULL, or NONE if the comparison must go on. */
    private int compareFrom(Tree one, Tree two, int index, int mask) {
        int steps = reached.stepsAt(index) + 1;
        int subset = 0;
        for (int turn = 0; turn < subsetsOf(mask); turn++) {
            outcome.determine(one, reached.firstAt(index), subset);
            otherOutcome.determine(two, reached.secondAt(index), subset);
            if (outcome.differsFrom(otherOutcome)) {
                return steps;
            }
            if (!outcome.isRejected() && reached.reach(outcome.next(), otherOutcome.next(), steps) == NONE) {
                return FULL;
            }
            subset = subsetAfter(subset, mask);
        }
        return NONE;
    }

    /** The text that is written and not read yet. */
    private static final class Text {
        private final int[] bytes;
        private int length;

        Text() {
            bytes = new int[MOST_BYTES];
            length = 0;
        }

        int length() {
            return length;
        }

        int byteAt(int index) {
            return index >= 0 && index < length && index < bytes.length ? bytes[index] : END_OF_TEXT;
        }

        void append(int letter) {
            if (length >= 0 && length < bytes.length) {
                bytes[length] = letter;
                length++;
            }
        }

        void clear() {
            length = 0;
        }
    }

    /** The statements of a program. A statement and all that it contains have consecutive numbers. */
    private static final class Tree {
        private final int[] tokens;
        private final int[] details;
        private final int[] indices;
        private final int[] lefts;
        private final int[] rights;
        private final int[] firsts;
        private final int[] lasts;
        private final int[] pauses;
        private int size;
        private int pausePoints;
        private int root;

        Tree() {
            tokens = new int[MOST_STATEMENTS];
            details = new int[MOST_STATEMENTS];
            indices = new int[MOST_STATEMENTS];
            lefts = new int[MOST_STATEMENTS];
            rights = new int[MOST_STATEMENTS];
            firsts = new int[MOST_STATEMENTS];
            lasts = new int[MOST_STATEMENTS];
            pauses = new int[MOST_STATEMENTS];
            size = 0;
            pausePoints = 0;
            root = NO_STATEMENT;
        }

        void clear() {
            size = 0;
            pausePoints = 0;
            root = NO_STATEMENT;
        }

        int size() {
            return size;
        }

        int pausePoints() {
            return pausePoints;
        }

        int root() {
            return root;
        }

        void setRoot(int statement) {
            root = statement;
        }

        boolean has(int statement) {
            return statement >= 0 && statement < size && statement < MOST_STATEMENTS;
        }

        boolean hasRoomFor(int token) {
            return size < MOST_STATEMENTS && (!isPausePoint(token) || pausePoints < MOST_PAUSE_POINTS);
        }

        private static boolean isPausePoint(int token) {
            return token == '.' || token == '&';
        }

        /** The number of the new statement; NO_STATEMENT if there is no room for it. */
        int add(int token, int index) {
            if (!hasRoomFor(token) || size < 0) {
                return NO_STATEMENT;
            }
            int statement = size;
            tokens[statement] = token;
            details[statement] = NONE;
            indices[statement] = index;
            lefts[statement] = NO_STATEMENT;
            rights[statement] = NO_STATEMENT;
            firsts[statement] = statement;
            lasts[statement] = statement;
            pauses[statement] = 0;
            if (isPausePoint(token)) {
                pauses[statement] = 1 << pausePoints;
                pausePoints++;
            }
            size++;
            return statement;
        }

        void setDetail(int statement, int detail) {
            if (has(statement)) {
                details[statement] = detail;
            }
        }

        void setOperands(int statement, int left, int right) {
            if (has(statement)) {
                lefts[statement] = left;
                rights[statement] = right;
                pauses[statement] = pausesOf(left) | pausesOf(right);
                if (has(left)) {
                    firsts[statement] = Math.min(statement, firsts[left]);
                    lasts[statement] = Math.max(statement, lasts[left]);
                }
                if (has(right)) {
                    lasts[statement] = Math.max(lasts[statement], lasts[right]);
                }
            }
        }

        int tokenOf(int statement) {
            return has(statement) ? tokens[statement] : '0';
        }

        int detailOf(int statement) {
            return has(statement) ? details[statement] : NONE;
        }

        int indexOf(int statement) {
            return has(statement) ? indices[statement] : 0;
        }

        int leftOf(int statement) {
            return has(statement) ? lefts[statement] : NO_STATEMENT;
        }

        int rightOf(int statement) {
            return has(statement) ? rights[statement] : NO_STATEMENT;
        }

        int pausesOf(int statement) {
            return has(statement) ? pauses[statement] : 0;
        }

        /** The signal of a statement as a set. */
        int signalOf(int statement) {
            int signal = has(statement) ? details[statement] : NONE;
            return signal >= 0 && signal < SIGNALS ? 1 << signal : 0;
        }

        boolean isLive(int statement, int state) {
            return has(statement) && (pauses[statement] & state) != 0;
        }

        int containedIn(int statement) {
            return has(statement) ? lasts[statement] - firsts[statement] : 0;
        }

        int containing(int statement) {
            int number = 0;
            for (int other = 0; other < MOST_STATEMENTS && other < size; other++) {
                if (other != statement && firsts[other] <= statement && statement <= lasts[other]) {
                    number++;
                }
            }
            return number;
        }
    }

    /** Reads the text into a spare tree, which is exchanged for that of a place if the text is sound. */
    private static final class Reader {
        private static final int SOUND = 0;

        private final Text text;
        private Tree tree;
        private int position;
        private int faultKind;
        private int faultPlace;

        Reader(Text text) {
            this.text = text;
            tree = new Tree();
            position = 0;
            faultKind = SOUND;
            faultPlace = 0;
        }

        int faultKind() {
            return faultKind;
        }

        int faultPlace() {
            return faultPlace;
        }

        Tree exchange(Tree other) {
            Tree read = tree;
            tree = other;
            return read;
        }

        void readText() {
            position = 0;
            faultKind = SOUND;
            faultPlace = 0;
            tree.clear();
            tree.setRoot(readParallel(0, 0, 0));
            if (look() != END_OF_TEXT) {
                refuse(1);
            }
            if (isSound()) {
                refuseIdleLoop();
            }
        }

        private boolean isSound() {
            return faultKind == SOUND;
        }

        /** Only the first fault counts. */
        private void refuse(int kind) {
            if (isSound()) {
                faultKind = kind;
                faultPlace = position;
            }
        }

        /** The token at the position, which first moves beyond the blanks. */
        private int look() {
            for (int turn = 0; turn < MOST_BYTES && text.byteAt(position) == ' '; turn++) {
                position++;
            }
            return text.byteAt(position);
        }

        private boolean isNext(int token) {
            return isSound() && look() == token;
        }

        private int readParallel(int traps, int locals, int brackets) {
            int left = readSequence(traps, locals, brackets);
            for (int turn = 0; turn < MOST_BYTES && isNext('|'); turn++) {
                int statement = begin('|', locals);
                if (isSound()) {
                    tree.setOperands(statement, left, readSequence(traps, locals, brackets));
                }
                left = statement;
            }
            return left;
        }

        private int readSequence(int traps, int locals, int brackets) {
            int left = readPart(traps, locals, brackets);
            for (int turn = 0; turn < MOST_BYTES && isNext(';'); turn++) {
                int statement = begin(';', locals);
                if (isSound()) {
                    tree.setOperands(statement, left, readPart(traps, locals, brackets));
                }
                left = statement;
            }
            return left;
        }

        private int readPart(int traps, int locals, int brackets) {
            int token = look();
            if (token == '(') {
                return readEnclosed('(', ')', traps, locals, brackets);
            }
            if (token != '0' && token != '.' && token != 'x' && token != '!' && token != '&' && !hasBlock(token)) {
                refuse(1);
                return NO_STATEMENT;
            }
            int statement = begin(token, locals);
            if (token == 'x') {
                readDigit(statement, traps);
            } else if (hasSignal(token)) {
                readSignal(statement);
            }
            if (hasBlock(token)) {
                int inTraps = token == '^' ? traps + 1 : traps;
                int inLocals = token == '$' ? locals + 1 : locals;
                int first = readEnclosed('{', '}', inTraps, inLocals, brackets);
                boolean hasSecond = token == '?' && isNext('{');
                int second = hasSecond ? readEnclosed('{', '}', traps, locals, brackets) : NO_STATEMENT;
                tree.setOperands(statement, first, second);
            }
            return statement;
        }

        private static boolean hasBlock(int token) {
            return token == '?' || token == '*' || token == '^' || token == '@' || token == '~' || token == '$';
        }

        private static boolean hasSignal(int token) {
            return token == '!' || token == '&' || token == '?' || token == '@' || token == '~' || token == '$';
        }

        private int readEnclosed(int open, int close, int traps, int locals, int brackets) {
            if (look() != open) {
                refuse(1);
            } else if (brackets >= MOST_BRACKETS) {
                refuse(4);
            }
            if (!isSound()) {
                return NO_STATEMENT;
            }
            position++;
            int inside = readParallel(traps, locals, brackets + 1);
            if (look() != close) {
                refuse(1);
            }
            position++;
            return inside;
        }

        private int begin(int token, int locals) {
            if (!tree.hasRoomFor(token)) {
                refuse(3);
            } else if (token == '$' && locals >= MOST_LOCALS) {
                refuse(4);
            }
            if (!isSound()) {
                return NO_STATEMENT;
            }
            int statement = tree.add(token, position);
            position++;
            return statement;
        }

        private void readSignal(int statement) {
            int token = look();
            if (token < 'a' || token > 'h') {
                refuse(1);
            }
            tree.setDetail(statement, token - 'a');
            position++;
        }

        private void readDigit(int statement, int traps) {
            int token = look();
            if (token < '0' || token > '4') {
                refuse(1);
            } else if (traps <= token - '0') {
                refuse(2);
            }
            tree.setDetail(statement, token - '0');
            position++;
        }

        private void refuseIdleLoop() {
            for (int statement = 0; statement < MOST_STATEMENTS && tree.has(statement) && isSound(); statement++) {
                if (tree.tokenOf(statement) == '*'
                        && (Analysis.instantaneousCodes(tree, tree.leftOf(statement)) & 1) != 0) {
                    position = tree.indexOf(statement);
                    refuse(5);
                }
            }
        }
    }

    /**
     * The must/can analysis. What a statement must do, or can do, is a set of effects: its signals in
     * bits 0 to 7 and its codes from bit 8 on. A result has both sets in one number, so that an
     * analysis makes no objects. What is known has the present signals in bits 0 to 7 and the absent
     * ones in bits 8 to 15.
     */
    private static final class Analysis {
        private static final int ENDS = 1 << 8, RESTS = 1 << 9, EXITS = 1 << 10;
        private static final int EFFECT_BITS = 15, EFFECTS = (1 << EFFECT_BITS) - 1;
        private static final int CODES = EFFECTS & ~ALL_SIGNALS;
        /** No tree is deeper than its number of statements. */
        private static final int DEEPEST = MOST_STATEMENTS;

        static int ofProgram(Tree tree, int state, int known) {
            return analyse(tree, tree.root(), state, true, known, 0);
        }

        static int instantaneousCodes(Tree tree, int statement) {
            return codes(can(analyse(tree, statement, START, false, 0, 0)));
        }

        static int knowledge(int present, int absent) {
            return present | absent << SIGNALS;
        }

        static int must(int result) {
            return result & EFFECTS;
        }

        static int can(int result) {
            return result >> EFFECT_BITS & EFFECTS;
        }

        static int signals(int effects) {
            return effects & ALL_SIGNALS;
        }

        static int codes(int effects) {
            return effects >> SIGNALS;
        }

        private static int result(int must, int can) {
            return must | can << EFFECT_BITS;
        }

        private static int certainly(int effects) {
            return effects | effects << EFFECT_BITS;
        }

        private static boolean isPresent(int signal, int known) {
            return (known & signal) != 0;
        }

        private static boolean isAbsent(int signal, int known) {
            return (known >> SIGNALS & signal) != 0;
        }

        /** The state START means that the statement starts, any other one that it resumes there. */
        private static int analyse(Tree tree, int statement, int state, boolean sure, int known, int depth) {
            if (!tree.has(statement) || depth > DEEPEST) {
                return certainly(ENDS);
            }
            switch (tree.tokenOf(statement)) {
                case '.':
                    return certainly(state == START ? RESTS : ENDS);
                case '!':
                    return certainly(tree.signalOf(statement) | ENDS);
                case 'x':
                    return certainly(EXITS << tree.detailOf(statement));
                case '&':
                    return ofAwait(tree.signalOf(statement), state, known);
                case '?':
                    return ofChoice(tree, statement, state, sure, known, depth + 1);
                case ';':
                    return ofSequence(tree, statement, state, sure, known, depth + 1);
                case '|':
                    return ofParallel(tree, statement, state, sure, known, depth + 1);
                case '*':
                    return ofLoop(tree, statement, state, sure, known, depth + 1);
                case '^':
                    return ofTrap(analyse(tree, tree.leftOf(statement), state, sure, known, depth + 1));
                case '@':
                    return ofAbort(tree, statement, state, sure, known, depth + 1);
                case '~':
                    return ofWeakAbort(tree, statement, state, sure, known, depth + 1);
                case '$':
                    return ofLocal(tree, statement, state, sure, known, depth + 1);
                default:
                    return certainly(ENDS);
            }
        }

        private static int ofAwait(int signal, int state, int known) {
            if (state == START || isAbsent(signal, known)) {
                return certainly(RESTS);
            }
            return isPresent(signal, known) ? certainly(ENDS) : result(0, ENDS | RESTS);
        }

        private static int ofChoice(Tree tree, int statement, int state, boolean sure, int known, int depth) {
            int first = tree.leftOf(statement);
            int second = tree.rightOf(statement);
            int signal = tree.signalOf(statement);
            boolean starts = state == START;
            if (starts ? isPresent(signal, known) : tree.isLive(first, state)) {
                return analyse(tree, first, state, sure, known, depth);
            }
            if (!starts || isAbsent(signal, known)) {
                return analyse(tree, second, state, sure, known, depth);
            }
            int one = analyse(tree, first, START, false, known, depth);
            int two = analyse(tree, second, START, false, known, depth);
            return result(0, can(one) | can(two));
        }

        private static int ofSequence(Tree tree, int statement, int state, boolean sure, int known, int depth) {
            int left = tree.leftOf(statement);
            int right = tree.rightOf(statement);
            if (state != START && !tree.isLive(left, state)) {
                return analyse(tree, right, state, sure, known, depth);
            }
            int before = analyse(tree, left, state, sure, known, depth);
            return followed(before, tree, right, sure, known, depth);
        }

        /** The result of a sequence in which a statement starts behind another one, whose result is given. */
        private static int followed(int before, Tree tree, int statement, boolean sure, int known, int depth) {
            if ((can(before) & ENDS) == 0) {
                return before;
            }
            boolean mustEnd = (must(before) & ENDS) != 0;
            int after = analyse(tree, statement, START, sure && mustEnd, known, depth);
            int must = mustEnd ? must(before) & ~ENDS | must(after) : must(before);
            return result(must, can(before) & ~ENDS | can(after));
        }

        private static int ofParallel(Tree tree, int statement, int state, boolean sure, int known, int depth) {
            int left = ofOperand(tree, tree.leftOf(statement), state, sure, known, depth);
            int right = ofOperand(tree, tree.rightOf(statement), state, sure, known, depth);
            return result(together(must(left), must(right)), together(can(left), can(right)));
        }

        private static int ofOperand(Tree tree, int operand, int state, boolean sure, int known, int depth) {
            boolean runs = state == START || tree.isLive(operand, state);
            return runs ? analyse(tree, operand, state, sure, known, depth) : certainly(ENDS);
        }

        /** Of the codes of both, those are maxima of two that are not below the lowest code of either side. */
        private static int together(int left, int right) {
            int lowestLeft = left & CODES & -(left & CODES);
            int lowestRight = right & CODES & -(right & CODES);
            int both = left | right;
            if (lowestLeft == 0 || lowestRight == 0) {
                return both & ALL_SIGNALS;
            }
            return both & ALL_SIGNALS | both & -Math.max(lowestLeft, lowestRight);
        }

        private static int ofLoop(Tree tree, int statement, int state, boolean sure, int known, int depth) {
            int block = tree.leftOf(statement);
            int before = analyse(tree, block, state, sure, known, depth);
            return state == START ? before : followed(before, tree, block, sure, known, depth);
        }

        private static int ofTrap(int block) {
            return result(caught(must(block)), caught(can(block)));
        }

        private static int caught(int effects) {
            int kept = effects & (ALL_SIGNALS | ENDS | RESTS);
            int ended = (effects & EXITS) != 0 ? ENDS : 0;
            int farther = effects & ~(ALL_SIGNALS | ENDS | RESTS | EXITS);
            return kept | ended | farther >> 1;
        }

        private static int ofAbort(Tree tree, int statement, int state, boolean sure, int known, int depth) {
            int block = tree.leftOf(statement);
            int signal = tree.signalOf(statement);
            if (state == START || isAbsent(signal, known)) {
                return analyse(tree, block, state, sure, known, depth);
            }
            if (isPresent(signal, known)) {
                return certainly(ENDS);
            }
            return result(0, can(analyse(tree, block, state, false, known, depth)) | ENDS);
        }

        private static int ofWeakAbort(Tree tree, int statement, int state, boolean sure, int known, int depth) {
            int block = analyse(tree, tree.leftOf(statement), state, sure, known, depth);
            int signal = tree.signalOf(statement);
            if (state == START || isAbsent(signal, known)) {
                return block;
            }
            if (isPresent(signal, known)) {
                return result(ended(must(block)) & ~RESTS, ended(can(block)) & ~RESTS);
            }
            return result(must(block) & ~RESTS, ended(can(block)));
        }

        /** Adds the code 0 where there is the code 1. */
        private static int ended(int effects) {
            return (effects & RESTS) != 0 ? effects | ENDS : effects;
        }

        private static int ofLocal(Tree tree, int statement, int state, boolean sure, int known, int depth) {
            int block = tree.leftOf(statement);
            int signal = tree.signalOf(statement);
            int inside = known & ~knowledge(signal, signal);
            int last = analyse(tree, block, state, sure, inside, depth);
            if (sure && (must(last) & signal) != 0) {
                last = analyse(tree, block, state, true, inside | knowledge(signal, 0), depth);
            } else if ((can(last) & signal) == 0) {
                last = analyse(tree, block, state, sure, inside | knowledge(0, signal), depth);
            }
            return result(must(last) & ~signal, can(last) & ~signal);
        }
    }

    /**
     * Executes statements with all signals settled. A completion has the pause points at which the
     * statement rests in bits 0 to 19 and its code from bit 20 on.
     */
    private static final class Execution {
        private static final int CODE_BIT = 20, POINTS = (1 << CODE_BIT) - 1;
        /** The completion of a statement with an unsettled local signal; its code is below all others. */
        private static final int UNSETTLED = -1;

        static int ofProgram(Tree tree, int state, int present) {
            return execute(tree, tree.root(), state, present, 0);
        }

        static int code(int completion) {
            return completion >> CODE_BIT;
        }

        static int points(int completion) {
            return completion & POINTS;
        }

        /** With another code than 1 nothing that the statement contains rests any longer. */
        private static int completion(int code, int points) {
            return code << CODE_BIT | (code == 1 ? points & POINTS : 0);
        }

        private static int execute(Tree tree, int statement, int state, int present, int depth) {
            if (!tree.has(statement) || depth > Analysis.DEEPEST) {
                return completion(0, 0);
            }
            switch (tree.tokenOf(statement)) {
                case '.':
                    return completion(state == START ? 1 : 0, tree.pausesOf(statement));
                case 'x':
                    return completion(2 + tree.detailOf(statement), 0);
                case '&':
                    boolean ends = state != START && (present & tree.signalOf(statement)) != 0;
                    return completion(ends ? 0 : 1, tree.pausesOf(statement));
                case '?':
                    return ofChoice(tree, statement, state, present, depth + 1);
                case ';':
                    return ofSequence(tree, statement, state, present, depth + 1);
                case '|':
                    return ofParallel(tree, statement, state, present, depth + 1);
                case '*':
                    return ofLoop(tree, tree.leftOf(statement), state, present, depth + 1);
                case '^':
                    return ofTrap(execute(tree, tree.leftOf(statement), state, present, depth + 1));
                case '@':
                case '~':
                    return ofAbort(tree, statement, state, present, depth + 1);
                case '$':
                    return ofLocal(tree, statement, state, present, depth + 1);
                default:
                    return completion(0, 0);
            }
        }

        private static int ofChoice(Tree tree, int statement, int state, int present, int depth) {
            int first = tree.leftOf(statement);
            boolean isPresent = (present & tree.signalOf(statement)) != 0;
            boolean takesFirst = state == START ? isPresent : tree.isLive(first, state);
            return execute(tree, takesFirst ? first : tree.rightOf(statement), state, present, depth);
        }

        private static int ofSequence(Tree tree, int statement, int state, int present, int depth) {
            int left = tree.leftOf(statement);
            int right = tree.rightOf(statement);
            if (state != START && !tree.isLive(left, state)) {
                return execute(tree, right, state, present, depth);
            }
            int before = execute(tree, left, state, present, depth);
            return code(before) == 0 ? execute(tree, right, START, present, depth) : before;
        }

        private static int ofParallel(Tree tree, int statement, int state, int present, int depth) {
            int left = ofOperand(tree, tree.leftOf(statement), state, present, depth);
            int right = ofOperand(tree, tree.rightOf(statement), state, present, depth);
            if (left == UNSETTLED || right == UNSETTLED) {
                return UNSETTLED;
            }
            return completion(Math.max(code(left), code(right)), points(left) | points(right));
        }

        private static int ofOperand(Tree tree, int operand, int state, int present, int depth) {
            boolean runs = state == START || tree.isLive(operand, state);
            return runs ? execute(tree, operand, state, present, depth) : completion(0, 0);
        }

        private static int ofLoop(Tree tree, int block, int state, int present, int depth) {
            int before = execute(tree, block, state, present, depth);
            boolean beginsAnew = state != START && code(before) == 0;
            return beginsAnew ? execute(tree, block, START, present, depth) : before;
        }

        private static int ofTrap(int block) {
            int code = code(block);
            if (code < 2) {
                return block;
            }
            return completion(code == 2 ? 0 : code - 1, 0);
        }

        /** A weak abort differs in that its block is executed once more, which can still exit or be unsettled. */
        private static int ofAbort(Tree tree, int statement, int state, int present, int depth) {
            boolean aborts = state != START && (present & tree.signalOf(statement)) != 0;
            if (aborts && tree.tokenOf(statement) == '@') {
                return completion(0, 0);
            }
            int block = execute(tree, tree.leftOf(statement), state, present, depth);
            return aborts && code(block) == 1 ? completion(0, 0) : block;
        }

        private static int ofLocal(Tree tree, int statement, int state, int present, int depth) {
            int block = tree.leftOf(statement);
            int signal = tree.signalOf(statement);
            int others = ALL_SIGNALS & ~signal;
            int known = Analysis.knowledge(present & others, ~present & others);
            int analysis = Analysis.analyse(tree, block, state, true, known, depth);
            if ((Analysis.must(analysis) & signal) != 0) {
                return execute(tree, block, state, present | signal, depth);
            }
            if ((Analysis.can(analysis) & signal) == 0) {
                return execute(tree, block, state, present & others, depth);
            }
            return UNSETTLED;
        }
    }

    /** What an instant would lead to. */
    private static final class Outcome {
        /** Each round but the last settles at least one signal. */
        private static final int MOST_ROUNDS = SIGNALS + 1;
        private static final int REJECTED_EVENT = 9;

        private int known;
        private int unsettled;
        private int code;
        private int next;
        private int rounds;

        Outcome() {
            known = 0;
            unsettled = 0;
            code = 0;
            next = ENDED;
            rounds = 0;
        }

        int present() {
            return known & ALL_SIGNALS;
        }

        int unsettled() {
            return unsettled;
        }

        boolean isRejected() {
            return unsettled != 0;
        }

        int code() {
            return code;
        }

        int next() {
            return next;
        }

        int rounds() {
            return rounds;
        }

        void determine(Tree tree, int state, int outside) {
            known = outside;
            unsettled = 0;
            code = 0;
            next = ENDED;
            rounds = 0;
            if (state == ENDED) {
                return;
            }
            settle(tree, state);
            if (unsettled == 0) {
                complete(Execution.ofProgram(tree, state, present()));
            }
        }

        private void settle(Tree tree, int state) {
            boolean changes = true;
            for (int round = 0; round < MOST_ROUNDS && changes; round++) {
                int result = Analysis.ofProgram(tree, state, known);
                int present = present() | Analysis.signals(Analysis.must(result));
                int impossible = ALL_SIGNALS & ~Analysis.can(result) & ~present;
                int learned = known | Analysis.knowledge(present, impossible);
                changes = learned != known;
                known = learned;
                rounds++;
            }
            unsettled = ALL_SIGNALS & ~(known | known >> SIGNALS);
        }

        private void complete(int completion) {
            if (completion == Execution.UNSETTLED) {
                unsettled = LOCAL_UNSETTLED;
            } else {
                code = Execution.code(completion);
                next = Execution.points(completion);
            }
        }

        /** The events are those of soon(). */
        boolean shows(int event) {
            if (event == REJECTED_EVENT) {
                return isRejected();
            }
            if (isRejected()) {
                return false;
            }
            return event == SIGNALS ? next == ENDED : event >= 0 && event < SIGNALS && (known >> event & 1) != 0;
        }

        boolean differsFrom(Outcome other) {
            if (isRejected() || other.isRejected()) {
                return isRejected() != other.isRejected();
            }
            return present() != other.present();
        }

        /** The signals for which a signal waits; tree and state are those of the instant. */
        int waitedFor(Tree tree, int state, int signal) {
            int waiting = signal >= 0 && signal < SIGNALS ? unsettled & 1 << signal : 0;
            int set = 0;
            for (int other = 0; other < SIGNALS && waiting != 0; other++) {
                int deciding = unsettled & 1 << other;
                if (deciding != 0 && (decides(tree, state, waiting, Analysis.knowledge(deciding, 0))
                        || decides(tree, state, waiting, Analysis.knowledge(0, deciding)))) {
                    set |= deciding;
                }
            }
            return set;
        }

        private boolean decides(Tree tree, int state, int waiting, int more) {
            int result = Analysis.ofProgram(tree, state, known | more);
            return (Analysis.must(result) & waiting) != 0 || (Analysis.can(result) & waiting) == 0;
        }

        /** After as many steps as there are signals, the way can only be on the ring. */
        int circle(Tree tree, int state) {
            int signal = lowest(unsettled & ALL_SIGNALS);
            for (int step = 0; step < SIGNALS && signal != NONE; step++) {
                signal = lowest(waitedFor(tree, state, signal));
            }
            int set = 0;
            for (int step = 0; step < SIGNALS && signal != NONE && (set >> signal & 1) == 0; step++) {
                set |= 1 << signal;
                signal = lowest(waitedFor(tree, state, signal));
            }
            return set;
        }

        private static int lowest(int set) {
            return set == 0 ? NONE : Integer.bitCount((set & -set) - 1);
        }
    }

    /** A place for a program, with the program's state and the states to which it can be undone. */
    private static final class Place {
        private final int[] before;
        private Tree tree;
        private boolean filled;
        private int now;
        private int undoable;

        Place() {
            before = new int[MOST_UNDONE];
            tree = new Tree();
            filled = false;
            now = START;
            undoable = 0;
        }

        boolean isFilled() {
            return filled;
        }

        Tree tree() {
            return tree;
        }

        int now() {
            return now;
        }

        int undoable() {
            return undoable;
        }

        void load(Tree read) {
            tree = read;
            filled = true;
            beginAnew();
        }

        void beginAnew() {
            now = START;
            undoable = 0;
        }

        void advance(int next) {
            if (undoable >= MOST_UNDONE) {
                System.arraycopy(before, 1, before, 0, MOST_UNDONE - 1);
                undoable = MOST_UNDONE - 1;
            }
            if (undoable >= 0) {
                before[undoable] = now;
                undoable++;
            }
            now = next;
        }

        void goBack() {
            if (undoable > 0 && undoable <= MOST_UNDONE) {
                undoable--;
                now = before[undoable];
            }
        }
    }

    /** The pairs of states that an exploration has reached; for one program the second state is always 0. */
    private static final class Reached {
        private final int[] first;
        private final int[] second;
        private final int[] steps;
        private int size;
        private int limit;

        Reached() {
            first = new int[MOST_PAIRS];
            second = new int[MOST_PAIRS];
            steps = new int[MOST_PAIRS];
            size = 0;
            limit = MOST_PAIRS;
        }

        void begin(int most, int one, int two) {
            limit = Math.min(most, MOST_PAIRS);
            size = 0;
            reach(one, two, 0);
        }

        int size() {
            return size;
        }

        int firstAt(int index) {
            return index >= 0 && index < MOST_PAIRS ? first[index] : ENDED;
        }

        int secondAt(int index) {
            return index >= 0 && index < MOST_PAIRS ? second[index] : ENDED;
        }

        int stepsAt(int index) {
            return index >= 0 && index < MOST_PAIRS ? steps[index] : 0;
        }

        /** The index of a pair, which is added if it is new; NONE if it is new and there is no room. */
        int reach(int one, int two, int afterSteps) {
            for (int index = 0; index < MOST_PAIRS && index < size; index++) {
                if (first[index] == one && second[index] == two) {
                    return index;
                }
            }
            if (size < 0 || size >= limit || size >= MOST_PAIRS) {
                return NONE;
            }
            first[size] = one;
            second[size] = two;
            steps[size] = afterSteps;
            size++;
            return size - 1;
        }
    }

    /** The instants of all reached states of one program, a row of subsets for each state. */
    private static final class Chart {
        /** Stands where the present signals of an instant do, and differs from all sets of them. */
        private static final int REJECTED = -1;

        private final int[] present;
        private final int[] nexts;
        private int[] groups;
        private int[] finerGroups;
        private int size;
        private int width;
        private int rejections;

        Chart() {
            present = new int[MOST_STATES * MOST_SUBSETS];
            nexts = new int[MOST_STATES * MOST_SUBSETS];
            groups = new int[MOST_STATES];
            finerGroups = new int[MOST_STATES];
            size = 0;
            width = 0;
            rejections = 0;
        }

        void begin(int subsets) {
            size = 0;
            width = subsets;
            rejections = 0;
        }

        /** The rows are entered in their order; next is the row of the next state. */
        void enter(int row, int column, int shown, int next) {
            if (row >= 0 && row < MOST_STATES && column >= 0 && column < MOST_SUBSETS) {
                present[row * MOST_SUBSETS + column] = shown;
                nexts[row * MOST_SUBSETS + column] = next;
                size = row + 1;
                if (shown == REJECTED) {
                    rejections++;
                }
            }
        }

        int size() {
            return size;
        }

        int rejections() {
            return rejections;
        }

        /** Refines one class of all states until a refinement adds no class. */
        int classes() {
            for (int row = 0; row < MOST_STATES; row++) {
                groups[row] = 0;
            }
            int before = 0;
            int number = 1;
            for (int turn = 0; turn < MOST_STATES && number != before; turn++) {
                before = number;
                number = refine();
                int[] coarser = groups;
                groups = finerGroups;
                finerGroups = coarser;
            }
            return number;
        }

        private int refine() {
            int number = 0;
            for (int row = 0; row < MOST_STATES && row < size; row++) {
                int alike = firstAlike(row);
                if (alike < row && alike >= 0) {
                    finerGroups[row] = finerGroups[alike];
                } else {
                    finerGroups[row] = number;
                    number++;
                }
            }
            return number;
        }

        private int firstAlike(int row) {
            for (int other = 0; other < MOST_STATES && other < row; other++) {
                if (groupOf(other) == groupOf(row) && isAlike(other, row)) {
                    return other;
                }
            }
            return row;
        }

        private boolean isAlike(int one, int two) {
            for (int column = 0; column < MOST_SUBSETS && column < width; column++) {
                int shown = shownAt(one, column);
                if (shown != shownAt(two, column)) {
                    return false;
                }
                if (shown != REJECTED && groupOf(nextAt(one, column)) != groupOf(nextAt(two, column))) {
                    return false;
                }
            }
            return true;
        }

        private int groupOf(int row) {
            return row >= 0 && row < MOST_STATES ? groups[row] : NONE;
        }

        private int shownAt(int row, int column) {
            int index = row * MOST_SUBSETS + column;
            return index >= 0 && index < present.length ? present[index] : REJECTED;
        }

        private int nextAt(int row, int column) {
            int index = row * MOST_SUBSETS + column;
            return index >= 0 && index < nexts.length ? nexts[index] : 0;
        }
    }
}

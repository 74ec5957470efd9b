import java.util.Arrays;

/**
 * A tongue in which no step forgets: its routines run forward and back, are read, printed, mirrored, and, where
 * they are ordinary, turned to such that keep a trail. Words in capitals are those of the document.
 */
public final class ThereAndBack {
    public static final int BAD = -1, NOT = -2, FULL = -3, NULL = -11, CAST = -12, INDEX = -13, STORE = -14, SIZE = -15;

    private static final int ROUTINES = 10, TAPE_ROOM = 600, MOST_MOVES = 400, MOST_GOES = 300;
    private static final int FAULTED = -10, REFUSED = -20;

    // What REFUSES; the names differ where the face has a constant of the document's own word.
    private static final int ABSENT = 1, MISSING = 2, OUTSIDE = 3, ZERO = 4, EMPTY = 5, SELF = 6, WRONG_SIZE = 7;
    private static final int VALUE = 8, TOO_HIGH = 9, KIND = 10, DEEP = 11, ENDED = 12, NONE = 13, THERE = 14, TEST = 15;

    private final byte[] tape = new byte[TAPE_ROOM];
    private int taped;
    private final Text[] texts = new Text[ROUTINES];
    private Text spare = new Text();
    private final Reader reader = new Reader(spare);
    private final Printer printer = new Printer();
    private final Shaper shaper = new Shaper(spare);
    private final State state = new State();
    private final Shelf shelf = new Shelf();
    private final Run theRun;
    private final Walker walker;
    private int getFailed;

    public ThereAndBack() {
        for (int r = 0; r < ROUTINES; r++) texts[r] = new Text();
        Worth worth = new Worth(state, shelf, spare);
        theRun = new Run(texts, new Doer(state, shelf, worth), worth);
        walker = new Walker(state, worth);
    }

    // ---- 1 texts

    public int type(long w, int n) {
        if (n < 1 || n > 8) return BAD;
        for (int i = 0; i < n; i++) {
            if (!isPlain(byteOf(w, i))) return BAD;
        }
        if (taped + n > TAPE_ROOM) return FULL;
        for (int i = n - 1; i >= 0; i--) tape[taped++] = (byte) byteOf(w, i);
        return taped;
    }

    public int read(int routine) {
        if (!isRoutine(routine)) return BAD;
        boolean good = reader.reads(tape, taped, spare);
        taped = 0;
        return good ? becomes(routine) : FAULTED - reader.why();
    }

    public int fault(int what) {
        if (what == 0) return reader.why();
        return what == 1 ? reader.where() : BAD;
    }

    public int drop(int routine) {
        if (!isRoutine(routine)) return BAD;
        if (!texts[routine].isThere()) return NOT;
        texts[routine].forget();
        theRun.stop();
        return texts[routine].size();
    }

    public int told(int routine, int what) {
        if (!isRoutine(routine) || what < 0 || what > 4) return BAD;
        Text text = texts[routine];
        if (!text.isThere()) return NOT;
        switch (what) {
            case 0: return text.size();
            case 1: return text.outerSteps();
            case 2: return text.isOrdinary() ? 1 : 0;
            case 3: return text.depth();
            default: return text.names();
        }
    }

    public int print(int routine) {
        if (!isRoutine(routine)) return BAD;
        if (!texts[routine].isThere()) return NOT;
        printer.write(texts[routine]);
        return printer.length();
    }

    public int out(int i) {
        return i >= 0 && i < printer.length() ? printer.byteAt(i) : BAD;
    }

    public int take() {
        int n = printer.length();
        if (n > TAPE_ROOM) return FULL;
        for (int i = 0; i < n; i++) tape[i] = (byte) printer.byteAt(i);
        taped = n;
        return n;
    }

    public int same(int a, int b) {
        if (!isRoutine(a) || !isRoutine(b)) return BAD;
        if (!texts[a].isThere() || !texts[b].isThere()) return NOT;
        return texts[a].hasTokensOf(texts[b]) ? 1 : 0;
    }

    public int mirror(int from, int to) {
        if (!isRoutine(from) || !isRoutine(to)) return BAD;
        if (!isReversible(from)) return NOT;
        shaper.writeMirror(texts[from], spare);
        return becomes(to);
    }

    public int turn(int from, int to) {
        if (!isRoutine(from) || !isRoutine(to)) return BAD;
        if (!isForgetful(from) || texts[from].hasTrailNames()) return NOT;
        if (shaper.turnedSize(texts[from]) > Text.INSTRUCTIONS) return FULL;
        shaper.writeTurned(texts[from], spare);
        return becomes(to);
    }

    public int walk(int routine, int n) {
        if (!isRoutine(routine) || n < 0 || n > MOST_MOVES) return BAD;
        if (!isForgetful(routine)) return NOT;
        return walker.walkThrough(texts[routine], n);
    }

    // ---- 2 the state

    public int wipe() {
        int n = state.namesThere() + shelf.rowsThere();
        state.clear();
        shelf.clearRows();
        theRun.stop();
        return n;
    }

    public int give(int k, int v) {
        if (!State.isName(k)) return BAD;
        int before = state.isThere(k) ? 1 : 0;
        state.bring(k, v);
        return before;
    }

    public int has(int k) {
        if (!State.isName(k)) return BAD;
        return state.isThere(k) ? 1 : 0;
    }

    public int value(int k) {
        return state.worthOf(k);
    }

    public int row(int r, int what) {
        if (!Shelf.isRow(r) || what < 0 || what > 1) return BAD;
        int held = shelf.heldByRow(r);
        if (held == Shelf.NOTHING) return NOT;
        return what == 0 ? shelf.kindOf(held) : shelf.countOf(held);
    }

    public long item(int r, int i) {
        return shelf.load(shelf.heldByRow(r), i);
    }

    public int height(int s) {
        return State.isStack(s) ? state.heightOf(s) : BAD;
    }

    public int piled(int s, int i) {
        return state.intOf(s, i);
    }

    // ---- 3 the run

    public int begin(int routine, boolean back) {
        if (!isRoutine(routine)) return BAD;
        if (!isReversible(routine)) return NOT;
        theRun.start(routine, back);
        return texts[routine].size();
    }

    public int go(boolean round) {
        if (!theRun.isThere()) return NOT;
        return theRun.goOften(1, round) == 1 ? 1 : REFUSED - theRun.why();
    }

    public int run(int n) {
        if (n < -MOST_GOES || n > MOST_GOES) return BAD;
        if (!theRun.isThere()) return NOT;
        return theRun.goOften(n < 0 ? -n : n, n < 0);
    }

    public int goTo(int k) {
        if (!theRun.isThere()) return NOT;
        long away = (long) k - theRun.fact(Run.STEPS);
        if (away < -MOST_GOES || away > MOST_GOES) return BAD;
        return theRun.goOften((int) (away < 0 ? -away : away), away < 0);
    }

    public int at(int what) {
        if (what < 0 || what > 5) return BAD;
        if (what == 5) return theRun.why();
        return theRun.isThere() ? theRun.fact(what) : NOT;
    }

    public int frame(int i, int what) {
        if (!theRun.isThere()) return NOT;
        if (i < 0 || i >= theRun.fact(Run.FRAMES) || what < 0 || what > 1) return BAD;
        return what == 0 ? theRun.frameRoutine(i) : theRun.frameInstruction(i);
    }

    public long digest() {
        return theRun.digestOn(stateDigest());
    }

    // ---- 4 the bench

    public int lay(int place, int kind, int n) {
        if (!Shelf.isPlace(place) || !Shelf.isKind(kind) || n > Shelf.ITEMS) return BAD;
        if (n < 0) return SIZE;
        shelf.holdAtPlace(place, shelf.make(kind, n));
        return n;
    }

    public int lift(int r, int place) {
        if (!Shelf.isRow(r) || !Shelf.isPlace(place)) return BAD;
        int held = shelf.heldByRow(r);
        shelf.holdAtPlace(place, held);
        return held == Shelf.NOTHING ? 0 : 1;
    }

    public int put(int place, int r) {
        if (!Shelf.isPlace(place) || !Shelf.isRow(r)) return BAD;
        int held = shelf.heldAtPlace(place);
        if (held == Shelf.NOTHING) return NULL;
        shelf.holdAsRow(r, held);
        return shelf.countOf(held);
    }

    public int set(int place, int kind, int i, long v) {
        int wrong = wrongAt(place, kind, i);
        if (wrong != 0) return wrong;
        shelf.store(shelf.heldAtPlace(place), i, v);
        return 1;
    }

    public long get(int place, int kind, int i) {
        getFailed = wrongAt(place, kind, i);
        return getFailed == 0 ? shelf.load(shelf.heldAtPlace(place), i) : 0;
    }

    public int failed() {
        return getFailed;
    }

    public int copy(int from, int i, int to, int j, int n) {
        if (!Shelf.isPlace(from) || !Shelf.isPlace(to)) return BAD;
        int source = shelf.heldAtPlace(from);
        int target = shelf.heldAtPlace(to);
        if (source == Shelf.NOTHING || target == Shelf.NOTHING) return NULL;
        if (shelf.kindOf(source) != shelf.kindOf(target)) return STORE;
        if (!shelf.spans(source, i, n) || !shelf.spans(target, j, n)) return INDEX;
        shelf.carry(source, i, target, j, n);
        return n;
    }

    public int alike(int a, int b) {
        if (!Shelf.isPlace(a) || !Shelf.isPlace(b)) return BAD;
        return shelf.heldAtPlace(a) == shelf.heldAtPlace(b) ? 1 : 0;
    }

    // ---- what the calls share

    private static int byteOf(long w, int i) {
        return (int) (w >>> 8 * i) & 255;
    }

    private static boolean isPlain(int b) {
        return b >= 32 && b <= 126;
    }

    private static boolean isRoutine(int r) {
        return r >= 0 && r < ROUTINES;
    }

    private boolean isReversible(int r) {
        return texts[r].isThere() && !texts[r].isOrdinary();
    }

    private boolean isForgetful(int r) {
        return texts[r].isThere() && texts[r].isOrdinary();
    }

    /** What lies in the spare TEXT is the ROUTINE's from now on; its old one is the next spare. */
    private int becomes(int routine) {
        Text old = texts[routine];
        spare.settle();
        texts[routine] = spare;
        spare = old;
        theRun.stop();
        return texts[routine].size();
    }

    private long stateDigest() {
        return state.digestPiles(shelf.digestRows(state.digestNames(1)));
    }

    private int wrongAt(int place, int kind, int i) {
        if (!Shelf.isPlace(place) || !Shelf.isKind(kind)) return BAD;
        int held = shelf.heldAtPlace(place);
        if (held == Shelf.NOTHING) return NULL;
        if (shelf.kindOf(held) != kind) return CAST;
        return shelf.spans(held, i, 1) ? 0 : INDEX;
    }

    /**
     * TOKENS as ints: a NUMBER is -1 less itself, a single byte (a NAME, a ROW, a STACK, a sign) is that byte, and
     * the pairs of signs and the KEYS have codes above all bytes.
     */
    private static final class Token {
        static final int STOP = 0, STRANGE = 1;
        // Two that undo one another differ in the lowest bit alone, here and among the KEYS: see undoing().
        static final int PLUS = 128, MINUS = 129, LEFT = 130, RIGHT = 131, XOR = 132, SWAP = 133;
        static final int LET = 200, UNLET = 201, PUSH = 202, POP = 203, NEW = 204, END = 205, CALL = 206, UNCALL = 207;
        static final int IF = 208, ELSE = 209, FI = 210, FROM = 211, LOOP = 212, UNTIL = 213;
        static final int SET = 214, WHILE = 215, WHEN = 216, FIRST_KIND = 217, LAST_KIND = 221;
        static final int NAUGHT = -1, ONE = -2;

        static final int KEY_ROOM = 6;
        static final String PAIRS = "+=-=<<>>^=<>";
        static final String KEYS =
            "let   unlet push  pop   new   end   call  uncallif    else  fi    from  loop  until set   while when  int   long  short byte  char  ";

        static boolean isNumber(int t) {
            return t < 0;
        }

        static int numberOf(int t) {
            return -1 - t;
        }

        static boolean isName(int t) {
            return t >= 'a' && t <= 'z';
        }

        static boolean isRow(int t) {
            return t >= 'A' && t <= 'F';
        }

        static boolean isStack(int t) {
            return t >= 'S' && t <= 'V';
        }

        static boolean isKind(int t) {
            return t >= FIRST_KIND && t <= LAST_KIND;
        }

        static boolean isPair(int t) {
            return t >= PLUS && t <= SWAP;
        }

        static boolean isSumSign(int t) {
            return t == '+' || t == '-' || t == '^' || t == '|';
        }

        static boolean isProductSign(int t) {
            return t == '*' || t == '/' || t == '%' || t == '&';
        }

        static boolean isOrdinary(int t) {
            return t >= SET && t <= WHEN;
        }

        static boolean hasParts(int t) {
            return t == IF || t == FROM || t == WHILE || t == WHEN;
        }

        static boolean beginsStep(int t) {
            return isName(t) || isRow(t) || t >= LET && t <= UNCALL || hasParts(t) || t == SET;
        }

        /** Behind such a TOKEN a - takes away; behind any other it is the - of an F. */
        static boolean endsFactor(int t) {
            return isNumber(t) || isName(t) || isRow(t) || t == ']' || t == ')';
        }

        static int instructionsOf(int t) {
            if (t == WHILE) return 2;
            return hasParts(t) ? 3 : 1;
        }

        static int undoing(int op) {
            return op >= PLUS && op <= RIGHT || op >= LET && op <= UNCALL ? op ^ 1 : op;
        }
    }

    /** A TEXT as its TOKENS, with a table of its INSTRUCTIONS that tells where each stands in them. */
    private static final class Text {
        // A TURNED TEXT has some 800 TOKENS at most: the 600 of a TAPE, and under five more for each INSTRUCTION.
        static final int ROOM = 1000, INSTRUCTIONS = 40, NESTED = 5;
        static final int STEP = 0, HEAD = 1, MIDDLE = 2, TAIL = 3;
        static final int TRAIL_NAMES = 63 << 'u' - 'a';

        private final int[] tokens = new int[ROOM];
        private int length;
        private final int[] ops = new int[INSTRUCTIONS];
        private final int[] roles = new int[INSTRUCTIONS];
        private final int[] starts = new int[INSTRUCTIONS];
        private final int[] bodies = new int[INSTRUCTIONS];
        private final int[] heads = new int[INSTRUCTIONS];
        private final int[] middles = new int[INSTRUCTIONS];
        private final int[] tails = new int[INSTRUCTIONS];
        private int size;
        private final int[] open = new int[NESTED];
        private int opened;
        private int outerSteps;
        private int depth;
        private int names;
        private boolean there;

        /** No TOKENS yet: what is written here becomes a TEXT by settle() alone. */
        void clear() {
            length = 0;
        }

        void forget() {
            there = false;
        }

        void add(int token) {
            if (length < ROOM) tokens[length++] = token;
        }

        int token(int i) {
            return i >= 0 && i < length ? tokens[i] : Token.STOP;
        }

        int length() {
            return length;
        }

        boolean isThere() {
            return there;
        }

        int size() {
            return size;
        }

        int outerSteps() {
            return outerSteps;
        }

        int depth() {
            return depth;
        }

        int names() {
            return names;
        }

        boolean isOrdinary() {
            return Token.isOrdinary(token(0));
        }

        boolean hasTrailNames() {
            return (names & TRAIL_NAMES) != 0;
        }

        boolean hasTokensOf(Text other) {
            if (length != other.length) return false;
            for (int i = 0; i < length; i++) {
                if (token(i) != other.token(i)) return false;
            }
            return true;
        }

        /** What INSTRUCTION p does: the KEY of its STEP, or the pair of signs behind its first P. */
        int op(int p) {
            return isInstruction(p) ? ops[p] : Token.STOP;
        }

        int role(int p) {
            return isInstruction(p) ? roles[p] : STEP;
        }

        int start(int p) {
            return isInstruction(p) ? starts[p] : length;
        }

        /** Where the E (or the second P) of INSTRUCTION p begins. */
        int body(int p) {
            return isInstruction(p) ? bodies[p] : length;
        }

        int head(int p) {
            return isInstruction(p) ? heads[p] : 0;
        }

        int middle(int p) {
            int h = head(p);
            return isInstruction(h) ? middles[h] : 0;
        }

        int tail(int p) {
            int h = head(p);
            return isInstruction(h) ? tails[h] : 0;
        }

        /** The next such TOKEN from i on; where there is none, the end. */
        int next(int token, int i) {
            for (int k = i; k < length; k++) {
                if (token(k) == token) return k;
            }
            return length;
        }

        /** Makes the table anew. The TOKENS are known to be without FAULT. */
        void settle() {
            size = 0;
            opened = 0;
            outerSteps = 0;
            depth = 0;
            names = 0;
            for (int i = 0; i < length; i++) {
                if (Token.isName(token(i))) names |= 1 << token(i) - 'a';
            }
            int i = 0;
            for (int n = 0; n < ROOM && i < length; n++) i = token(i) == '}' ? passEnd(i) : passBegin(i);
            there = true;
        }

        private boolean isInstruction(int p) {
            return p >= 0 && p < size;
        }

        private int passBegin(int i) {
            int t = token(i);
            if (opened == 0) outerSteps++;
            if (Token.hasParts(t)) {
                enter(t, HEAD, i, i + 1);
                return next('{', i) + 1;
            }
            if (Token.isName(t) || Token.isRow(t)) {
                int sign = pairBehind(i);
                enter(token(sign), STEP, i, sign + 1);
            } else {
                enter(t, STEP, i, i + 3);
            }
            return next(';', i) + 1;
        }

        private int passEnd(int i) {
            int t = token(i + 1);
            int op = opened > 0 ? op(open[opened - 1]) : Token.STOP;
            if (t == Token.ELSE || t == Token.LOOP) {
                enter(op, MIDDLE, i + 1, i + 2);
                return i + 3;
            }
            enter(op, TAIL, i + 1, i + 2);
            return next(';', i) + 1;
        }

        private int pairBehind(int i) {
            for (int k = i; k < length; k++) {
                if (Token.isPair(token(k))) return k;
            }
            return length;
        }

        private void enter(int op, int role, int start, int body) {
            if (size >= INSTRUCTIONS) return;
            int p = size++;
            ops[p] = op;
            roles[p] = role;
            starts[p] = start;
            bodies[p] = body;
            if (role == HEAD && opened < NESTED) {
                open[opened++] = p;
                depth = Math.max(depth, opened);
            }
            int h = opened > 0 ? open[opened - 1] : p;
            heads[p] = h;
            if (role == MIDDLE) middles[h] = p;
            if (role == TAIL) {
                tails[h] = p;
                if (opened > 0) opened--;
            }
        }
    }

    /** Reads a TAPE to a TEXT: splits it into TOKENS, then goes through these up to the first FAULT. */
    private static final class Reader {
        private static final int MOST_BRACES = Text.NESTED, MOST_BRACKETS = 8, LONGEST_NUMBER = 9;
        private static final int OUT_OF_PLACE = 1, NESTED_DEEP = 2, IN_ITSELF = 3, LONG = 4, NO_ROUTINE = 5, MIXED = 6;

        private final int[] begins = new int[TAPE_ROOM + 1];
        private Text text;
        private int at;
        private int why;
        private int where;
        private int size;
        private boolean begun;
        private boolean ordinary;

        Reader(Text first) {
            text = first;
        }

        int why() {
            return why;
        }

        int where() {
            return where;
        }

        boolean reads(byte[] tape, int length, Text into) {
            text = into;
            at = 0;
            why = 0;
            where = 0;
            size = 0;
            begun = false;
            ordinary = false;
            split(tape, Math.min(length, tape.length));
            return steps(0);
        }

        private void split(byte[] tape, int length) {
            text.clear();
            int i = 0;
            for (int n = 0; n < TAPE_ROOM && i < length; n++) {
                int end = i + 1;
                if (tape[i] != ' ') {
                    end = tokenEnd(tape, i, length);
                    mark(i);
                    text.add(tokenOf(tape, i, end));
                }
                i = end;
            }
            mark(length);
        }

        private void mark(int begin) {
            if (text.length() < begins.length) begins[text.length()] = begin;
        }

        private static int tokenEnd(byte[] tape, int from, int length) {
            if (isSmall(tape[from])) {
                int i = from;
                while (i < length && isSmall(tape[i])) i++;
                return i;
            }
            if (isDigit(tape[from])) {
                int i = from;
                while (i < length && i < from + LONGEST_NUMBER && isDigit(tape[i])) i++;
                return i;
            }
            return from + 1 < length && pairOf(tape[from], tape[from + 1]) != Token.STRANGE ? from + 2 : from + 1;
        }

        private static int tokenOf(byte[] tape, int from, int end) {
            if (isDigit(tape[from])) return numberToken(tape, from, end);
            if (end == from + 1) return tape[from];
            return isSmall(tape[from]) ? keyOf(tape, from, end) : pairOf(tape[from], tape[from + 1]);
        }

        private static int numberToken(byte[] tape, int from, int end) {
            int n = 0;
            for (int i = from; i < end; i++) n = n * 10 + tape[i] - '0';
            return -1 - n;
        }

        private static int pairOf(int a, int b) {
            for (int k = 0; k + 1 < Token.PAIRS.length(); k += 2) {
                if (Token.PAIRS.charAt(k) == a && Token.PAIRS.charAt(k + 1) == b) return Token.PLUS + k / 2;
            }
            return Token.STRANGE;
        }

        private static int keyOf(byte[] tape, int from, int end) {
            if (end - from > Token.KEY_ROOM) return Token.STRANGE;
            for (int k = 0; k + Token.KEY_ROOM <= Token.KEYS.length(); k += Token.KEY_ROOM) {
                if (isKey(k, tape, from, end)) return Token.LET + k / Token.KEY_ROOM;
            }
            return Token.STRANGE;
        }

        private static boolean isKey(int k, byte[] tape, int from, int end) {
            for (int i = 0; i < Token.KEY_ROOM; i++) {
                int letter = from + i < end ? tape[from + i] : ' ';
                if (Token.KEYS.charAt(k + i) != letter) return false;
            }
            return true;
        }

        private static boolean isSmall(int b) {
            return b >= 'a' && b <= 'z';
        }

        private static boolean isDigit(int b) {
            return b >= '0' && b <= '9';
        }

        private boolean fails(int fault, int token) {
            why = fault;
            where = token >= 0 && token < begins.length ? begins[token] : 0;
            return false;
        }

        /** Goes over one TOKEN if it may stand here. */
        private boolean passesIf(boolean stands) {
            if (!stands) return fails(OUT_OF_PLACE, at);
            at++;
            return true;
        }

        private boolean passes(int token) {
            return passesIf(text.token(at) == token);
        }

        /** Goes over a TOKEN that opens something, which may stand within a number of others alone. */
        private boolean opens(int token, int within, int most) {
            if (text.token(at) == token && within >= most) return fails(NESTED_DEEP, at);
            return passes(token);
        }

        private boolean steps(int braces) {
            for (int n = 0; n <= TAPE_ROOM; n++) {
                int t = text.token(at);
                if (braces == 0 ? t == Token.STOP : t == '}') return true;
                if (!step(braces)) return false;
            }
            return fails(OUT_OF_PLACE, at);
        }

        private boolean step(int braces) {
            int first = at;
            int t = text.token(first);
            if (!Token.beginsStep(t)) return fails(OUT_OF_PLACE, first);
            if (begun && ordinary != Token.isOrdinary(t)) return fails(MIXED, first);
            begun = true;
            ordinary = Token.isOrdinary(t);
            if (!inner(t, braces) || !passes(';')) return false;
            if (isInItself(first)) return fails(IN_ITSELF, first);
            size += Token.instructionsOf(t);
            return size <= Text.INSTRUCTIONS || fails(LONG, first);
        }

        /** Goes over a STEP up to its ; */
        private boolean inner(int t, int braces) {
            if (Token.isName(t) || Token.isRow(t)) return change();
            at++;
            switch (t) {
                case Token.LET:
                case Token.UNLET:
                case Token.SET:
                    return name() && passes('=') && sum(0);
                case Token.PUSH:
                case Token.POP:
                    return name() && passesIf(Token.isStack(text.token(at)));
                case Token.NEW:
                case Token.END:
                    return passesIf(Token.isRow(text.token(at))) && passesIf(Token.isKind(text.token(at))) && sum(0);
                case Token.CALL:
                case Token.UNCALL:
                    return routine();
                case Token.IF:
                    return sum(0) && parts(Token.ELSE, braces) && passes(Token.FI) && sum(0);
                case Token.FROM:
                    return sum(0) && parts(Token.LOOP, braces) && passes(Token.UNTIL) && sum(0);
                case Token.WHEN:
                    return sum(0) && parts(Token.ELSE, braces);
                default:
                    return sum(0) && part(braces);
            }
        }

        private boolean name() {
            return passesIf(Token.isName(text.token(at)));
        }

        private boolean routine() {
            int t = text.token(at);
            if (Token.isNumber(t) && Token.numberOf(t) >= ROUTINES) return fails(NO_ROUTINE, at);
            return passesIf(Token.isNumber(t));
        }

        private boolean parts(int key, int braces) {
            return part(braces) && passes(key) && part(braces);
        }

        private boolean part(int braces) {
            return opens('{', braces, MOST_BRACES) && steps(braces + 1) && passes('}');
        }

        private boolean change() {
            if (!place()) return false;
            boolean swap = text.token(at) == Token.SWAP;
            return passesIf(Token.isPair(text.token(at))) && (swap ? place() : sum(0));
        }

        /** The [ of a P is none of an F, so what stands within it counts from 0 on, as in any E of a STEP. */
        private boolean place() {
            if (!Token.isRow(text.token(at))) return name();
            at++;
            return passes('[') && sum(0) && passes(']');
        }

        private boolean rowItem(int brackets) {
            at++;
            return opens('[', brackets, MOST_BRACKETS) && sum(brackets + 1) && passes(']');
        }

        private boolean sum(int brackets) {
            if (!product(brackets)) return false;
            for (int n = 0; n < TAPE_ROOM && Token.isSumSign(text.token(at)); n++) {
                at++;
                if (!product(brackets)) return false;
            }
            return true;
        }

        private boolean product(int brackets) {
            if (!factor(brackets)) return false;
            for (int n = 0; n < TAPE_ROOM && Token.isProductSign(text.token(at)); n++) {
                at++;
                if (!factor(brackets)) return false;
            }
            return true;
        }

        private boolean factor(int brackets) {
            int t = text.token(at);
            if (t == '-') return opens('-', brackets, MOST_BRACKETS) && factor(brackets + 1);
            if (t == '(') return opens('(', brackets, MOST_BRACKETS) && inBrackets(brackets + 1);
            if (Token.isRow(t)) return rowItem(brackets);
            if (t == '#') return passes('#') && passesIf(Token.isRow(text.token(at)));
            return passesIf(Token.isNumber(t) || Token.isName(t));
        }

        private boolean inBrackets(int brackets) {
            if (!sum(brackets)) return false;
            int t = text.token(at);
            if (t == '<' || t == '=') {
                at++;
                if (!sum(brackets)) return false;
            }
            return passes(')');
        }

        /** Whether what the STEP behind us (from its first TOKEN to its ;) changes by name stands in its E. */
        private boolean isInItself(int first) {
            int t = text.token(first);
            if (t == Token.LET || t == Token.UNLET || t == Token.NEW || t == Token.END) {
                return stands(text.token(first + 1), first + 3);
            }
            int pair = text.token(first + 1);
            return Token.isName(t) && pair != Token.SWAP && stands(t, first + 2);
        }

        private boolean stands(int token, int from) {
            return text.next(token, from) < at;
        }
    }

    /** THE OUT, and how a TEXT is PRINTED to it. */
    private static final class Printer {
        // TOKENS and the blanks between them come to under 3000 bytes even of a TEXT that was TURNED.
        private static final int ROOM = 4096;

        private final byte[] bytes = new byte[ROOM];
        private int length;

        int length() {
            return length;
        }

        int byteAt(int i) {
            return i >= 0 && i < length ? bytes[i] : 0;
        }

        void write(Text text) {
            length = 0;
            for (int i = 0; i < text.length(); i++) {
                if (i > 0 && isApart(text, i)) add(' ');
                writeToken(text.token(i));
            }
        }

        /** Whether a blank stands ahead of TOKEN i. */
        private static boolean isApart(Text text, int i) {
            int t = text.token(i);
            int before = text.token(i - 1);
            if (t == ';' || t == ']' || t == ')' || t == '[') return false;
            if (before == '-') return Token.endsFactor(text.token(i - 2));
            return before != '[' && before != '(' && before != '#';
        }

        private void writeToken(int t) {
            if (Token.isNumber(t)) {
                writeNumber(Token.numberOf(t));
            } else if (t >= Token.LET) {
                writeLetters(Token.KEYS, (t - Token.LET) * Token.KEY_ROOM, Token.KEY_ROOM);
            } else if (Token.isPair(t)) {
                writeLetters(Token.PAIRS, (t - Token.PLUS) * 2, 2);
            } else {
                add(t);
            }
        }

        private void writeNumber(int n) {
            int unit = 1;
            for (int digits = 1; digits < 9 && n / unit >= 10; digits++) unit *= 10;
            for (; unit > 0; unit /= 10) add('0' + n / unit % 10);
        }

        private void writeLetters(String letters, int from, int most) {
            for (int i = from; i < from + most && i < letters.length(); i++) {
                if (letters.charAt(i) != ' ') add(letters.charAt(i));
            }
        }

        private void add(int b) {
            if (length < ROOM) bytes[length++] = (byte) b;
        }
    }

    /** Writes MIRRORS, and TEXTS that are TURNED, as TOKENS into another TEXT. */
    private static final class Shaper {
        private static final int STACK = 'V', HELPER = 'z', FIRST_COUNTER = 'y';

        private Text from;
        private Text into;

        Shaper(Text first) {
            from = first;
            into = first;
        }

        void writeMirror(Text text, Text to) {
            from = text;
            into = to;
            into.clear();
            mirrorSteps(0, from.size(), 0);
        }

        /** The STEPS from one PLACE to another, the last one first. */
        private void mirrorSteps(int low, int high, int depth) {
            int p = high;
            for (int n = 0; n < Text.INSTRUCTIONS && p > low; n++) {
                p--;
                if (from.role(p) == Text.TAIL) {
                    mirrorParts(p, depth);
                    p = from.head(p);
                } else {
                    mirrorStep(p);
                }
            }
        }

        private void mirrorParts(int tail, int depth) {
            if (depth >= Text.NESTED) return;
            int head = from.head(tail);
            int middle = from.middle(tail);
            boolean isIf = from.op(tail) == Token.IF;
            into.add(from.op(tail));
            addTokens(from.body(tail), ';');
            into.add('{');
            mirrorSteps(head + 1, middle, depth + 1);
            addThree('}', isIf ? Token.ELSE : Token.LOOP, '{');
            mirrorSteps(middle + 1, tail, depth + 1);
            into.add('}');
            into.add(isIf ? Token.FI : Token.UNTIL);
            addTokens(from.body(head), '{');
            into.add(';');
        }

        private void mirrorStep(int p) {
            int end = from.next(';', from.start(p));
            for (int i = from.start(p); i <= end; i++) into.add(Token.undoing(from.token(i)));
        }

        /** How many INSTRUCTIONS a TEXT would have, TURNED. */
        int turnedSize(Text text) {
            from = text;
            int n = 0;
            for (int p = 0; p < from.size(); p++) {
                if (from.role(p) == Text.STEP) {
                    n += isOwnChange(p) ? 1 : isInOwn(p, 0) ? 4 : 2;
                } else if (from.role(p) == Text.HEAD) {
                    n += from.op(p) == Token.WHILE ? 7 : 6;
                }
            }
            return n;
        }

        void writeTurned(Text text, Text to) {
            from = text;
            into = to;
            into.clear();
            int depth = 0;
            for (int p = 0; p < from.size(); p++) {
                if (from.role(p) == Text.TAIL) depth--;
                int counter = FIRST_COUNTER - depth;
                if (from.role(p) == Text.STEP) {
                    turnSet(p);
                } else if (from.op(p) == Token.WHILE) {
                    turnWhile(p, counter);
                } else {
                    turnWhen(p, counter);
                }
                if (from.role(p) == Text.HEAD) depth++;
            }
        }

        private void turnSet(int p) {
            int name = nameOf(p);
            int body = from.body(p);
            if (isOwnChange(p)) {
                into.add(name);
                into.add(changeBy(from.token(body + 1)));
                addTokens(body + 2, ';');
                into.add(';');
            } else if (!isInOwn(p, 0)) {
                addPush(name);
                into.add(name);
                into.add(Token.PLUS);
                addTokens(body, ';');
                into.add(';');
            } else {
                addThree(Token.LET, HELPER, '=');
                addTokens(body, ';');
                into.add(';');
                addThree(name, Token.SWAP, HELPER);
                into.add(';');
                addTrail(HELPER);
            }
        }

        private void turnWhile(int p, int counter) {
            if (from.role(p) == Text.HEAD) {
                addNaught(Token.LET, counter);
                into.add(Token.FROM);
                addIsNaught(counter);
                addThree('{', '}', Token.LOOP);
                into.add('{');
            } else {
                addThree(counter, Token.PLUS, Token.ONE);
                addThree(';', '}', Token.UNTIL);
                addEqualsNaught(from.body(from.head(p)));
                into.add(';');
                addTrail(counter);
            }
        }

        private void turnWhen(int p, int counter) {
            if (from.role(p) == Text.HEAD) {
                addThree(Token.LET, counter, '=');
                addEqualsNaught(from.body(p));
                into.add(';');
                into.add(Token.IF);
                addIsNaught(counter);
                into.add('{');
            } else if (from.role(p) == Text.MIDDLE) {
                addThree('}', Token.ELSE, '{');
            } else {
                into.add('}');
                into.add(Token.FI);
                addIsNaught(counter);
                into.add(';');
                addTrail(counter);
            }
        }

        private int nameOf(int p) {
            return from.token(from.start(p) + 1);
        }

        private static int changeBy(int sign) {
            if (sign == '+') return Token.PLUS;
            return sign == '-' ? Token.MINUS : Token.XOR;
        }

        /** Whether the N of a set stands in its E, some TOKENS behind the first. */
        private boolean isInOwn(int p, int behind) {
            int body = from.body(p) + behind;
            return from.next(nameOf(p), body) < from.next(';', body);
        }

        /** Whether the E of a set is N + T, N - T or N ^ T, with N not in T. */
        private boolean isOwnChange(int p) {
            int body = from.body(p);
            int sign = from.token(body + 1);
            boolean begins = from.token(body) == nameOf(p) && Token.isSumSign(sign) && sign != '|';
            return begins && !isInOwn(p, 2) && isOneProduct(body + 2);
        }

        /** Whether no sign of a sum stands between here and the ; but within brackets. */
        private boolean isOneProduct(int start) {
            int brackets = 0;
            int end = from.next(';', start);
            for (int i = start; i < end; i++) {
                int t = from.token(i);
                if (t == '(' || t == '[') brackets++;
                if (t == ')' || t == ']') brackets--;
                if (brackets == 0 && Token.isSumSign(t) && Token.endsFactor(from.token(i - 1))) return false;
            }
            return true;
        }

        /** Adds the TOKENS of an E that begins here, whose end is a ; or a { */
        private void addTokens(int start, int end) {
            int stop = from.next(end, start);
            for (int i = start; i < stop; i++) into.add(from.token(i));
        }

        private void addThree(int a, int b, int c) {
            into.add(a);
            into.add(b);
            into.add(c);
        }

        private void addPush(int name) {
            addThree(Token.PUSH, name, STACK);
            into.add(';');
        }

        private void addNaught(int key, int name) {
            addThree(key, name, '=');
            into.add(Token.NAUGHT);
            into.add(';');
        }

        /** A NAME goes on the trail, and away. */
        private void addTrail(int name) {
            addPush(name);
            addNaught(Token.UNLET, name);
        }

        private void addIsNaught(int name) {
            addThree('(', name, '=');
            into.add(Token.NAUGHT);
            into.add(')');
        }

        /** ( E = 0 ), the E being one that ends at a { */
        private void addEqualsNaught(int start) {
            into.add('(');
            addTokens(start, '{');
            addThree('=', Token.NAUGHT, ')');
        }
    }

    /** NAMES and STACKS. */
    private static final class State {
        static final int NAMES = 26;
        private static final int STACKS = 4, HIGHEST = 30;

        private final boolean[] there = new boolean[NAMES];
        private final int[] ints = new int[NAMES];
        private final int[][] piles = new int[STACKS][HIGHEST];
        private final int[] heights = new int[STACKS];

        static boolean isName(int k) {
            return k >= 0 && k < NAMES;
        }

        static boolean isStack(int s) {
            return s >= 0 && s < STACKS;
        }

        void clear() {
            for (int k = 0; k < NAMES; k++) there[k] = false;
            Arrays.fill(heights, 0);
        }

        boolean isThere(int k) {
            return k >= 0 && k < NAMES && there[k];
        }

        int worthOf(int k) {
            return k >= 0 && k < NAMES && there[k] ? ints[k] : 0;
        }

        void bring(int k, int v) {
            if (!isName(k)) return;
            there[k] = true;
            ints[k] = v;
        }

        void remove(int k) {
            if (isName(k)) there[k] = false;
        }

        int namesThere() {
            int n = 0;
            for (int k = 0; k < NAMES; k++) {
                if (there[k]) n++;
            }
            return n;
        }

        int heightOf(int s) {
            return s >= 0 && s < STACKS ? heights[s] : 0;
        }

        int intOf(int s, int i) {
            return i >= 0 && i < heightOf(s) && i < HIGHEST ? piles[s][i] : 0;
        }

        boolean isFull(int s) {
            return heightOf(s) >= HIGHEST;
        }

        void pile(int s, int v) {
            if (isStack(s) && heights[s] < HIGHEST) piles[s][heights[s]++] = v;
        }

        int unpile(int s) {
            int top = intOf(s, heightOf(s) - 1);
            if (heightOf(s) > 0) heights[s]--;
            return top;
        }

        long digestNames(long h) {
            for (int k = 0; k < NAMES; k++) h = there[k] ? (31 * h + 1) * 31 + ints[k] : 31 * h;
            return h;
        }

        long digestPiles(long h) {
            for (int s = 0; s < STACKS; s++) {
                h = 31 * h + heights[s];
                for (int i = 0; i < heights[s]; i++) h = 31 * h + intOf(s, i);
            }
            return h;
        }
    }

    /**
     * Rows of ITEMS, and who holds them: ROWS and the places of the bench. A row is known by its number on the shelf,
     * so that several may hold the very same one; what nobody holds any more is used again.
     */
    private static final class Shelf {
        static final int NOTHING = -1, ITEMS = 12, NUMBERS = 15;
        private static final int ROWS = 6, PLACES = 8;
        private static final int INT = 0, LONG = 1, SHORT = 2, BYTE = 3, CHAR = 4;

        private final int[] rows = new int[ROWS];
        private final int[] places = new int[PLACES];
        private final int[] kinds = new int[NUMBERS];
        private final int[] counts = new int[NUMBERS];
        private final long[][] items = new long[NUMBERS][ITEMS];

        Shelf() {
            Arrays.fill(rows, NOTHING);
            Arrays.fill(places, NOTHING);
        }

        static boolean isRow(int r) {
            return r >= 0 && r < ROWS;
        }

        static boolean isPlace(int place) {
            return place >= 0 && place < PLACES;
        }

        static boolean isKind(int kind) {
            return kind >= INT && kind <= CHAR;
        }

        static int bitsOf(int kind) {
            if (kind == LONG) return 64;
            if (kind == INT) return 32;
            return kind == BYTE ? 8 : 16;
        }

        static long cut(int kind, long v) {
            switch (kind) {
                case INT: return (int) v;
                case SHORT: return (short) v;
                case BYTE: return (byte) v;
                case CHAR: return (char) v;
                default: return v;
            }
        }

        int heldByRow(int r) {
            return r >= 0 && r < ROWS ? rows[r] : NOTHING;
        }

        int heldAtPlace(int place) {
            return isPlace(place) ? places[place] : NOTHING;
        }

        void holdAsRow(int r, int number) {
            if (isRow(r)) rows[r] = number;
        }

        void holdAtPlace(int place, int number) {
            if (isPlace(place)) places[place] = number;
        }

        void clearRows() {
            Arrays.fill(rows, NOTHING);
        }

        int rowsThere() {
            int n = 0;
            for (int r = 0; r < ROWS; r++) {
                if (rows[r] != NOTHING) n++;
            }
            return n;
        }

        /** A row that nobody held: the fourteen holders leave at least one of fifteen. */
        int make(int kind, int n) {
            int number = 0;
            while (number < NUMBERS - 1 && isHeld(number)) number++;
            kinds[number] = kind;
            counts[number] = n;
            Arrays.fill(items[number], 0);
            return number;
        }

        private boolean isHeld(int number) {
            for (int r = 0; r < ROWS; r++) {
                if (rows[r] == number) return true;
            }
            for (int place = 0; place < PLACES; place++) {
                if (places[place] == number) return true;
            }
            return false;
        }

        private static boolean isNumber(int number) {
            return number >= 0 && number < NUMBERS;
        }

        int kindOf(int number) {
            return number >= 0 && number < NUMBERS ? kinds[number] : NOTHING;
        }

        int countOf(int number) {
            return number >= 0 && number < NUMBERS ? counts[number] : 0;
        }

        /** Whether a row has n ITEMS from i on. */
        boolean spans(int number, int i, int n) {
            return n >= 0 && i >= 0 && i <= countOf(number) - n;
        }

        long load(int number, int i) {
            return number >= 0 && number < NUMBERS && i >= 0 && i < counts[number] ? items[number][i] : 0;
        }

        void store(int number, int i, long v) {
            if (number >= 0 && number < NUMBERS && i >= 0 && i < counts[number]) items[number][i] = cut(kinds[number], v);
        }

        void carry(int source, int i, int target, int j, int n) {
            if (!isNumber(source) || !isNumber(target) || !spans(source, i, n) || !spans(target, j, n)) return;
            System.arraycopy(items[source], i, items[target], j, n);
        }

        boolean isAllNaught(int number) {
            for (int i = 0; i < countOf(number); i++) {
                if (load(number, i) != 0) return false;
            }
            return true;
        }

        long digestRows(long h) {
            for (int r = 0; r < ROWS; r++) h = rows[r] == NOTHING ? 31 * h : digestRow(31 * h + 1, rows[r]);
            return h;
        }

        private long digestRow(long h, int number) {
            int n = countOf(number);
            h = (31 * h + kindOf(number)) * 31 + n;
            for (int i = 0; i < n; i++) h = 31 * h + load(number, i);
            return h;
        }
    }

    /** What an E comes to. It goes on from where the last E or P ended only until something is REFUSED. */
    private static final class Worth {
        // Eight of an F within one another, and around them the [ of a P or the ( that TURNING brings.
        private static final int DEEPEST = 12;

        private final State state;
        private final Shelf shelf;
        private final int[] itemsRead = new int[Shelf.NUMBERS];
        private int namesRead;
        private int kept = Shelf.NOTHING;
        private Text text;
        private int at;
        private int refused;

        Worth(State state, Shelf shelf, Text first) {
            this.state = state;
            this.shelf = shelf;
            text = first;
        }

        /** A new STEP: nothing was read, nothing is kept from being read. */
        void start() {
            Arrays.fill(itemsRead, 0);
            namesRead = 0;
            kept = Shelf.NOTHING;
            refused = 0;
        }

        int refused() {
            return refused;
        }

        long sumAt(Text in, int from) {
            text = in;
            at = from;
            return sum(0);
        }

        /** What the P at a TOKEN tells, as one number: a NAME is its own, an ITEM comes behind all NAMES. */
        int find(Text in, int from) {
            text = in;
            at = from + 1;
            int t = in.token(from);
            if (Token.isRow(t)) return spotOf(shelf.heldByRow(t - 'A'), itemAhead(t - 'A', 0));
            if (!state.isThere(t - 'a')) refuse(ABSENT);
            return t - 'a';
        }

        static int spotOf(int number, int item) {
            return State.NAMES + number * Shelf.ITEMS + item;
        }

        static int numberAt(int spot) {
            return (spot - State.NAMES) / Shelf.ITEMS;
        }

        static int itemAt(int spot) {
            return (spot - State.NAMES) % Shelf.ITEMS;
        }

        boolean wasRead(int spot) {
            if (State.isName(spot)) return (namesRead & 1 << spot) != 0;
            int number = numberAt(spot);
            return Shelf.isNumber(number) && (itemsRead[number] & 1 << itemAt(spot)) != 0;
        }

        /** From now on this ITEM may not be read: SELF. */
        void keep(int spot) {
            kept = spot;
        }

        private void refuse(int why) {
            if (refused == 0) refused = why;
        }

        private long sum(int depth) {
            long total = product(depth);
            for (int n = 0; n < Text.ROOM && refused == 0; n++) {
                int sign = text.token(at);
                if (!Token.isSumSign(sign)) return total;
                at++;
                long next = product(depth);
                switch (sign) {
                    case '+': total += next; break;
                    case '-': total -= next; break;
                    case '^': total ^= next; break;
                    default: total |= next; break;
                }
            }
            return total;
        }

        private long product(int depth) {
            long total = factor(depth);
            for (int n = 0; n < Text.ROOM && refused == 0; n++) {
                int sign = text.token(at);
                if (!Token.isProductSign(sign)) return total;
                at++;
                total = joined(total, sign, factor(depth));
            }
            return total;
        }

        private long joined(long a, int sign, long b) {
            if (sign == '*') return a * b;
            if (sign == '&') return a & b;
            if (b == 0) {
                refuse(ZERO);
                return 0;
            }
            return sign == '/' ? a / b : a % b;
        }

        private long factor(int depth) {
            if (refused != 0 || depth > DEEPEST) return 0;
            int t = text.token(at);
            at++;
            if (Token.isNumber(t)) return Token.numberOf(t);
            if (Token.isName(t)) return readName(t - 'a');
            if (Token.isRow(t)) return readItem(t - 'A', depth);
            if (t == '#') return readCount();
            if (t == '-') return -factor(depth + 1);
            return readBrackets(depth + 1);
        }

        private long readName(int k) {
            if (!state.isThere(k)) refuse(ABSENT);
            namesRead |= 1 << k;
            return state.worthOf(k);
        }

        private long readCount() {
            int number = shelf.heldByRow(text.token(at) - 'A');
            at++;
            if (number == Shelf.NOTHING) refuse(MISSING);
            return shelf.countOf(number);
        }

        private long readItem(int r, int depth) {
            int item = itemAhead(r, depth);
            int number = shelf.heldByRow(r);
            if (refused != 0 || !Shelf.isNumber(number)) return 0;
            if (kept == spotOf(number, item)) refuse(SELF);
            itemsRead[number] |= 1 << item;
            return shelf.load(number, item);
        }

        /** Which ITEM the [ E ] ahead tells. */
        private int itemAhead(int r, int depth) {
            at++;
            long i = sum(depth + 1);
            at++;
            int number = shelf.heldByRow(r);
            if (number == Shelf.NOTHING) refuse(MISSING);
            if (i < 0 || i >= shelf.countOf(number)) refuse(OUTSIDE);
            return refused == 0 ? (int) i : Shelf.NOTHING;
        }

        private long readBrackets(int depth) {
            long a = sum(depth);
            int sign = text.token(at);
            at++;
            if (sign == ')' || refused != 0) return a;
            long b = sum(depth);
            at++;
            return (sign == '<' ? a < b : a == b) ? 1 : 0;
        }
    }

    /** Does one STEP that is neither call nor uncall, forward or back: back, as what undoes it is done forward. */
    private static final class Doer {
        private final State state;
        private final Shelf shelf;
        private final Worth worth;

        Doer(State state, Shelf shelf, Worth worth) {
            this.state = state;
            this.shelf = shelf;
            this.worth = worth;
        }

        /** What REFUSED it, 0 if nothing. */
        int does(Text text, int p, boolean forward) {
            int op = forward ? text.op(p) : Token.undoing(text.op(p));
            int subject = text.token(text.start(p) + 1);
            int body = text.body(p);
            worth.start();
            switch (op) {
                case Token.LET: return let(subject - 'a', text, body);
                case Token.UNLET: return unlet(subject - 'a', text, body);
                case Token.PUSH: return push(subject - 'a', text.token(body - 1) - 'S');
                case Token.POP: return pop(subject - 'a', text.token(body - 1) - 'S');
                case Token.NEW: return makeRow(subject - 'A', text, body);
                case Token.END: return endRow(subject - 'A', text, body);
                case Token.SWAP: return swap(text, text.start(p), body);
                default: return change(op, text, text.start(p), body);
            }
        }

        private int let(int k, Text text, int body) {
            if (state.isThere(k)) return THERE;
            long e = worth.sumAt(text, body);
            if (worth.refused() == 0) state.bring(k, (int) e);
            return worth.refused();
        }

        private int unlet(int k, Text text, int body) {
            if (!state.isThere(k)) return ABSENT;
            long e = worth.sumAt(text, body);
            if (worth.refused() != 0) return worth.refused();
            if (state.worthOf(k) != (int) e) return VALUE;
            state.remove(k);
            return 0;
        }

        private int push(int k, int s) {
            if (!state.isThere(k)) return ABSENT;
            if (state.isFull(s)) return TOO_HIGH;
            state.pile(s, state.worthOf(k));
            state.bring(k, 0);
            return 0;
        }

        private int pop(int k, int s) {
            if (!state.isThere(k)) return ABSENT;
            if (state.worthOf(k) != 0) return VALUE;
            if (state.heightOf(s) == 0) return EMPTY;
            state.bring(k, state.unpile(s));
            return 0;
        }

        private int makeRow(int r, Text text, int body) {
            if (shelf.heldByRow(r) != Shelf.NOTHING) return THERE;
            long e = worth.sumAt(text, body);
            if (worth.refused() != 0) return worth.refused();
            if (e < 0 || e > Shelf.ITEMS) return WRONG_SIZE;
            shelf.holdAsRow(r, shelf.make(text.token(body - 1) - Token.FIRST_KIND, (int) e));
            return 0;
        }

        private int endRow(int r, Text text, int body) {
            int number = shelf.heldByRow(r);
            if (number == Shelf.NOTHING) return MISSING;
            if (shelf.kindOf(number) != text.token(body - 1) - Token.FIRST_KIND) return KIND;
            long e = worth.sumAt(text, body);
            if (worth.refused() != 0) return worth.refused();
            if (e != shelf.countOf(number) || !shelf.isAllNaught(number)) return VALUE;
            shelf.holdAsRow(r, Shelf.NOTHING);
            return 0;
        }

        private int swap(Text text, int start, int body) {
            int first = worth.find(text, start);
            if (worth.refused() != 0) return worth.refused();
            int second = worth.find(text, body);
            if (worth.refused() != 0) return worth.refused();
            if (kindOf(first) != kindOf(second)) return KIND;
            if (first == second || worth.wasRead(first) || worth.wasRead(second)) return SELF;
            long held = load(first);
            store(first, load(second));
            store(second, held);
            return 0;
        }

        private int change(int op, Text text, int start, int body) {
            int spot = worth.find(text, start);
            if (worth.refused() != 0) return worth.refused();
            if (!State.isName(spot) && worth.wasRead(spot)) return SELF;
            worth.keep(spot);
            long e = worth.sumAt(text, body);
            if (worth.refused() == 0) store(spot, changed(op, load(spot), e, Shelf.bitsOf(kindOf(spot))));
            return worth.refused();
        }

        private static long changed(int op, long v, long e, int bits) {
            switch (op) {
                case Token.PLUS: return v + e;
                case Token.MINUS: return v - e;
                case Token.XOR: return v ^ e;
                case Token.LEFT: return turnedLeft(v, e, bits);
                default: return turnedLeft(v, -e, bits);
            }
        }

        private static long turnedLeft(long v, long e, int bits) {
            // The lowest bits of e are e modulo a power of two, of an e below 0 too.
            int by = (int) e & bits - 1;
            if (by == 0) return v;
            long low = bits == 64 ? v : v & (1L << bits) - 1;
            return low << by | low >>> bits - by;
        }

        private int kindOf(int spot) {
            return State.isName(spot) ? Shelf.INT : shelf.kindOf(Worth.numberAt(spot));
        }

        private long load(int spot) {
            if (State.isName(spot)) return state.worthOf(spot);
            return shelf.load(Worth.numberAt(spot), Worth.itemAt(spot));
        }

        /** Cuts what it stores to the KIND. */
        private void store(int spot, long v) {
            if (State.isName(spot)) {
                state.bring(spot, (int) v);
            } else {
                shelf.store(Worth.numberAt(spot), Worth.itemAt(spot), v);
            }
        }
    }

    /** THE RUN. */
    private static final class Run {
        static final int ROUTINE = 0, PLACE = 1, WAY = 2, FRAMES = 3, STEPS = 4;
        private static final int DEEPEST = 12, NOWHERE = -1;

        private final Text[] texts;
        private final Doer doer;
        private final Worth worth;
        private final int[] frameRoutines = new int[DEEPEST];
        private final int[] frameInstructions = new int[DEEPEST];
        private int frames;
        private int routine;
        private int place;
        private int way;
        private int steps;
        private int why;
        private boolean there;

        Run(Text[] texts, Doer doer, Worth worth) {
            this.texts = texts;
            this.doer = doer;
            this.worth = worth;
        }

        void start(int newRoutine, boolean back) {
            routine = newRoutine;
            place = back ? text().size() : 0;
            way = back ? -1 : 1;
            frames = 0;
            steps = 0;
            there = true;
        }

        void stop() {
            there = false;
        }

        boolean isThere() {
            return there;
        }

        int why() {
            return why;
        }

        int fact(int what) {
            switch (what) {
                case ROUTINE: return routine;
                case PLACE: return place;
                case WAY: return way;
                case FRAMES: return frames;
                default: return steps;
            }
        }

        int frameRoutine(int i) {
            return i >= 0 && i < frames ? frameRoutines[i] : 0;
        }

        int frameInstruction(int i) {
            return i >= 0 && i < frames ? frameInstructions[i] : 0;
        }

        /** GOES so often, or up to a REFUSAL: how often it did. */
        int goOften(int times, boolean round) {
            why = 0;
            for (int n = 0; n < times; n++) {
                why = goOnce((way > 0) != round);
                if (why != 0) return n;
                steps += round ? -1 : 1;
            }
            return times;
        }

        long digestOn(long h) {
            if (!there) return 31 * h + 7;
            h = (31 * h + routine) * 31 + place;
            h = (31 * h + way) * 31 + frames;
            for (int i = 0; i < frames; i++) h = (31 * h + frameRoutines[i]) * 31 + frameInstructions[i];
            return h;
        }

        private Text text() {
            return texts[isRoutine(routine) ? routine : 0];
        }

        private int goOnce(boolean forward) {
            Text text = text();
            if (place == (forward ? text.size() : 0)) return leave(forward);
            int p = forward ? place : place - 1;
            if (text.role(p) != Text.STEP) return text.op(p) == Token.IF ? overIf(p, forward) : overFrom(p, forward);
            if (text.op(p) == Token.CALL || text.op(p) == Token.UNCALL) return enter(p, forward);
            int refused = doer.does(text, p, forward);
            if (refused == 0) place = forward ? p + 1 : p;
            return refused;
        }

        private int enter(int p, boolean forward) {
            Text text = text();
            int r = Token.numberOf(text.token(text.start(p) + 1));
            boolean isCall = text.op(p) == Token.CALL;
            if (!isRoutine(r) || !texts[r].isThere() || texts[r].isOrdinary()) return NONE;
            if (frames >= DEEPEST) return DEEP;
            frameRoutines[frames] = routine;
            frameInstructions[frames] = p;
            frames++;
            routine = r;
            place = isCall == forward ? 0 : texts[r].size();
            if (!isCall) way = -way;
            return 0;
        }

        /** Out of a ROUTINE, at its last PLACE (forward) or at PLACE 0. */
        private int leave(boolean forward) {
            if (frames <= 0) return ENDED;
            frames--;
            routine = frameRoutines[frames];
            int p = frameInstructions[frames];
            boolean isCall = text().op(p) == Token.CALL;
            if (!isCall) way = -way;
            place = isCall == forward ? p + 1 : p;
            return 0;
        }

        private int overIf(int p, boolean forward) {
            int i = text().head(p);
            int j = text().middle(p);
            int k = text().tail(p);
            switch (text().role(p)) {
                case Text.HEAD: return forward ? fork(i, i + 1, j + 1) : fork(i, i, NOWHERE);
                case Text.MIDDLE: return forward ? fork(k, k + 1, NOWHERE) : fork(i, NOWHERE, i);
                default: return forward ? fork(k, NOWHERE, k + 1) : fork(k, j, k);
            }
        }

        private int overFrom(int p, boolean forward) {
            int i = text().head(p);
            int j = text().middle(p);
            int k = text().tail(p);
            switch (text().role(p)) {
                case Text.HEAD: return forward ? fork(i, i + 1, NOWHERE) : fork(i, i, k);
                case Text.MIDDLE: return forward ? fork(k, k + 1, j + 1) : fork(k, NOWHERE, j);
                default: return forward ? fork(i, NOWHERE, i + 1) : fork(k, j, NOWHERE);
            }
        }

        /** To one PLACE or another, by the E of an INSTRUCTION; TEST where that leads nowhere. */
        private int fork(int asked, int yes, int no) {
            worth.start();
            long e = worth.sumAt(text(), text().body(asked));
            if (worth.refused() != 0) return worth.refused();
            int to = e != 0 ? yes : no;
            if (to == NOWHERE) return TEST;
            place = to;
            return 0;
        }
    }

    /** WALKS through an ORDINARY TEXT. */
    private static final class Walker {
        // Far above what some 400 MOVES can need: between two of them lie a few INSTRUCTIONS without one.
        private static final int MOST_PASSES = 1000000;

        private final State state;
        private final Worth worth;

        Walker(State state, Worth worth) {
            this.state = state;
            this.worth = worth;
        }

        int walkThrough(Text text, int most) {
            int moves = 0;
            int p = 0;
            for (int n = 0; n < MOST_PASSES && p < text.size(); n++) {
                if (isMove(text, p)) {
                    if (moves >= most) return FULL;
                    moves++;
                    worth.start();
                    long e = worth.sumAt(text, text.body(p));
                    if (worth.refused() != 0) return REFUSED - worth.refused();
                    p = moved(text, p, e);
                } else {
                    p = passed(text, p);
                }
            }
            return moves;
        }

        private static boolean isMove(Text text, int p) {
            return text.role(p) == Text.STEP || text.role(p) == Text.HEAD;
        }

        private int moved(Text text, int p, long e) {
            if (text.role(p) == Text.STEP) {
                state.bring(text.token(text.start(p) + 1) - 'a', (int) e);
                return p + 1;
            }
            if (e != 0) return p + 1;
            return text.op(p) == Token.WHILE ? text.tail(p) + 1 : text.middle(p) + 1;
        }

        private static int passed(Text text, int p) {
            if (text.role(p) == Text.MIDDLE) return text.tail(p) + 1;
            return text.op(p) == Token.WHILE ? text.head(p) : p + 1;
        }
    }
}

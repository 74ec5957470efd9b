/** The edges of promises 22 to 28. One method a sentence, which its remark names. */
final class RunEdgesTest {
    private static final Check check = new Check();
    private static final int BAD = ThereAndBack.BAD, NOT = ThereAndBack.NOT;
    /** 602 GOES from one end to the other: one in, three for each of 200, one out. */
    private static final String LONG = "from (a = 0) { } loop { a += 1; } until (a = 200);";

    public static void main(String[] args) {
        begins();
        beginsAnew();
        beginRefused();
        goes();
        goRefused();
        runs();
        runsUpToARefusal();
        runRefused();
        goesTo();
        goesToUpToARefusal();
        goToRefused();
        atFacts();
        atFive();
        atRefused();
        frames();
        frameRefused();
        digests();
        digestWithoutARun();
        check.end();
    }

    /** Promise 22: "THE RUN begins at PLACE 0 .., its WAY 1 (or at its last PLACE, its WAY -1: back) ..: INSTRUCTIONS." */
    private static void begins() {
        for (int n : new int[] {0, 1, 40}) {
            ThereAndBack x = new ThereAndBack();
            for (int r : new int[] {0, 9}) {
                Check.read(x, r, "a += 1;".repeat(n));
                check.due("begin(" + r + ", false)", x.begin(r, false), n);
                check.dueAt(x, r, 0, 1, 0, 0);
                check.due("begin(" + r + ", true)", x.begin(r, true), n);
                check.dueAt(x, r, n, -1, 0, 0);
            }
        }
    }

    /** Promise 22: "without FRAMES; THE STATE stays". */
    private static void beginsAnew() {
        ThereAndBack x = Check.with("a += 1; push a S; call 0;");
        x.give(0, 0);
        x.begin(0, false);
        check.due("run(7)", x.run(7), 7);
        check.dueAt(x, 0, 1, 1, 2, 7);
        check.due("begin(0, false)", x.begin(0, false), 3);
        check.dueAt(x, 0, 0, 1, 0, 0);
        check.due("value(0) stays", x.value(0), 1);
        check.due("height(0) stays", x.height(0), 2);
        check.due("frame(0, 0)", x.frame(0, 0), BAD);
        check.due("go(true): nothing is left of the run before", x.go(true), -20 - Why.ENDED);
        check.due("begin(0, true)", x.begin(0, true), 3);
        check.dueAt(x, 0, 3, -1, 0, 0);
        check.due("at(5) stays by begin()", x.at(5), Why.ENDED);
    }

    /** Promise 22: "BAD; NOT: no TEXT, or ORDINARY." */
    private static void beginRefused() {
        ThereAndBack x = Check.with("a += 1;");
        Check.read(x, 1, "set a = 1;");
        for (boolean back : new boolean[] {false, true}) {
            check.dueEach("begin(r, " + back + ")", r -> x.begin(r, back), BAD, Check.outside(9));
            check.dueEach("begin(r, " + back + ")", r -> x.begin(r, back), NOT, 1, 2, 9);
            check.due("at(0): no RUN", x.at(0), NOT);
        }
        x.give(0, 0);
        x.begin(0, false);
        x.go(false);
        check.dueEach("begin(r, true)", r -> x.begin(r, true), NOT, 1, 2, 9);
        check.dueEach("begin(r, true)", r -> x.begin(r, true), BAD, Check.outside(9));
        check.dueAt(x, 0, 1, 1, 0, 1);
    }

    /** Promise 23: "THE RUN GOES (or the other way round): 1; -20 less what REFUSED it." */
    private static void goes() {
        ThereAndBack x = Check.with("a += 1; b += 1;");
        x.give(0, 0);
        x.begin(0, false);
        check.due("go(true) at the beginning", x.go(true), -32);
        check.due("go(false)", x.go(false), 1);
        check.due("go(false), ABSENT", x.go(false), -21);
        check.due("go(true)", x.go(true), 1);
        x.give(1, 0);
        check.due("run(2)", x.run(2), 2);
        check.due("go(false) at the end", x.go(false), -32);
        check.due("go(true)", x.go(true), 1);
        check.dueAt(x, 0, 1, 1, 0, 1);
    }

    /** Promise 23: "NOT: there is none." */
    private static void goRefused() {
        ThereAndBack x = Check.with("a += 1;");
        check.due("go(false) ahead of begin()", x.go(false), NOT);
        check.due("go(true) ahead of begin()", x.go(true), NOT);
        check.due("at(5)", x.at(5), 0);
        x.begin(0, false);
        check.due("go(false)", x.go(false), -21);
        x.wipe();
        check.due("go(false) behind wipe()", x.go(false), NOT);
        check.due("at(5) stays", x.at(5), Why.ABSENT);
    }

    /** Promise 24: "It GOES n times (0 .. 300; below 0, -300 at least: the other way round) ..: how many." */
    private static void runs() {
        ThereAndBack x = begun(LONG);
        int[] runs = {0, 1, 2, -1, -2, 299, -299, 300, -300, 300, 300, -300, 1, 1, -300, -2};
        int steps = 0;
        for (int n : runs) {
            check.due("run(" + n + ")", x.run(n), Math.abs(n));
            check.due("at(5)", x.at(5), 0);
            steps += n;
            check.due("at(4)", x.at(4), steps);
        }
        check.due("value(0)", x.value(0), 0);
    }

    private static ThereAndBack begun(String text) {
        ThereAndBack x = Check.with(text);
        x.give(0, 0);
        x.begin(0, false);
        return x;
    }

    /** Promise 24: "up to a REFUSAL: how many": none of them, some, all but the last. */
    private static void runsUpToARefusal() {
        ThereAndBack x = begun("a += 1; a += 1; b += 1;");
        check.due("run(-1)", x.run(-1), 0);
        check.due("at(5)", x.at(5), Why.ENDED);
        check.due("run(2)", x.run(2), 2);
        check.due("at(5)", x.at(5), 0);
        check.due("run(1)", x.run(1), 0);
        check.due("at(5)", x.at(5), Why.ABSENT);
        check.due("run(-2)", x.run(-2), 2);
        check.due("at(5)", x.at(5), 0);
        check.due("run(3)", x.run(3), 2);
        check.due("at(5)", x.at(5), Why.ABSENT);
        check.due("run(-3)", x.run(-3), 2);
        check.due("at(5)", x.at(5), Why.ENDED);
        check.due("at(4)", x.at(4), 0);
        check.due("run(0)", x.run(0), 0);
        check.due("at(5) of none gone", x.at(5), 0);
    }

    /** Promise 24: "BAD; NOT." */
    private static void runRefused() {
        ThereAndBack x = begun(LONG);
        x.run(5);
        check.dueEach("run", x::run, BAD, Integer.MIN_VALUE, -301, 301, Integer.MAX_VALUE);
        check.due("at(4): it did not go", x.at(4), 5);
        x.run(-6);
        check.due("run(301)", x.run(301), BAD);
        check.due("at(5) stays", x.at(5), Why.ENDED);
        x.wipe();
        check.dueEach("run of no RUN", x::run, NOT, -300, -1, 0, 1, 300);
        check.dueEach("run of no RUN, BAD ahead", x::run, BAD, -301, 301);
        check.due("at(5) stays", x.at(5), Why.ENDED);
    }

    /** Promise 25: "It GOES till STEPS are k ..: how often. BAD: k is more than 300 away". */
    private static void goesTo() {
        ThereAndBack x = begun(LONG);
        int[] targets = {0, 1, 0, 300, 0, 299, 599, 600, 300, 301, 1, 301, 601, 602, 302, 2, 0};
        int steps = 0;
        for (int k : targets) {
            check.due("goTo(" + k + ")", x.goTo(k), Math.abs(k - steps));
            check.due("at(4)", x.at(4), k);
            check.due("at(5)", x.at(5), 0);
            int here = k;
            check.dueEach("goTo from " + k, x::goTo, BAD, here - 301, here + 301, Integer.MIN_VALUE, Integer.MAX_VALUE);
            check.due("at(4)", x.at(4), k);
            steps = k;
        }
        check.due("value(0)", x.value(0), 0);
    }

    /** Promise 25: "up to a REFUSAL: how often". */
    private static void goesToUpToARefusal() {
        ThereAndBack x = begun("a += 1; a += 1; b += 1;");
        check.due("goTo(3)", x.goTo(3), 2);
        check.due("at(5)", x.at(5), Why.ABSENT);
        check.due("goTo(2)", x.goTo(2), 0);
        check.due("at(5)", x.at(5), 0);
        check.due("goTo(-1)", x.goTo(-1), 2);
        check.due("at(5)", x.at(5), Why.ENDED);
        check.due("at(4)", x.at(4), 0);
        check.due("goTo(-300)", x.goTo(-300), 0);
        check.due("goTo(-301)", x.goTo(-301), BAD);
        check.due("goTo(300)", x.goTo(300), 2);
        check.due("at(4)", x.at(4), 2);
        x.begin(0, true);
        check.due("goTo(1) from the end", x.goTo(1), 0);
        check.due("at(5)", x.at(5), Why.ABSENT);
        x.give(1, 0);
        check.due("goTo(1) from the end", x.goTo(1), 1);
        check.due("at(1)", x.at(1), 2);
    }

    /** Promise 25: "NOT. (NOT ahead.)" */
    private static void goToRefused() {
        ThereAndBack x = Check.with(LONG);
        check.dueEach("goTo of no RUN", x::goTo, NOT, Integer.MIN_VALUE, -301, -300, 0, 300, 301, Integer.MAX_VALUE);
        x.give(0, 0);
        x.begin(0, false);
        check.due("goTo(300)", x.goTo(300), 300);
        check.dueEach("goTo", x::goTo, BAD, Integer.MIN_VALUE, -1, 601, Integer.MAX_VALUE);
        x.goTo(0);
        x.go(true);
        check.due("goTo(301)", x.goTo(301), BAD);
        check.due("at(5) stays", x.at(5), Why.ENDED);
        x.wipe();
        check.due("goTo(0)", x.goTo(0), NOT);
        check.due("at(5) stays", x.at(5), Why.ENDED);
    }

    /** Promise 26: "Of THE RUN: 0 its ROUTINE, 1 PLACE, 2 WAY, 3 FRAMES, 4 STEPS". */
    private static void atFacts() {
        ThereAndBack x = Check.with("a += 1; uncall 9; a += 1;");
        Check.read(x, 9, "b += 1; b += 1;");
        x.give(0, 0);
        x.give(1, 0);
        x.begin(0, false);
        check.dueAt(x, 0, 0, 1, 0, 0);
        int[][] along = {{0, 1, 1, 0, 1}, {9, 2, -1, 1, 2}, {9, 1, -1, 1, 3}, {9, 0, -1, 1, 4}, {0, 2, 1, 0, 5}, {0, 3, 1, 0, 6}};
        for (int[] facts : along) {
            x.go(false);
            check.dueAt(x, facts);
        }
        x.begin(9, true);
        check.dueAt(x, 9, 2, -1, 0, 0);
    }

    /** Promise 26: "5 what REFUSED the latest go(), run(), goTo() that was not BAD, NOT (0: nothing; 5 of no RUN, too, 0 before)". */
    private static void atFive() {
        ThereAndBack x = Check.with("a += 1; b += 1;");
        check.due("at(5) before", x.at(5), 0);
        x.go(false);
        check.due("at(5) behind NOT", x.at(5), 0);
        x.give(0, 0);
        x.begin(0, false);
        check.due("at(5) behind begin()", x.at(5), 0);
        x.go(true);
        check.due("at(5) behind go()", x.at(5), Why.ENDED);
        x.run(301);
        x.goTo(301);
        check.due("at(5) behind BAD", x.at(5), Why.ENDED);
        x.run(2);
        check.due("at(5) behind run()", x.at(5), Why.ABSENT);
        x.goTo(0);
        check.due("at(5) behind goTo()", x.at(5), 0);
        x.goTo(2);
        check.due("at(5) behind goTo()", x.at(5), Why.ABSENT);
        x.drop(0);
        check.due("at(5) of no RUN", x.at(5), Why.ABSENT);
        x.run(1);
        check.due("at(5) behind NOT", x.at(5), Why.ABSENT);
    }

    /** Promise 26: "BAD; NOT." */
    private static void atRefused() {
        ThereAndBack x = Check.with("a += 1;");
        check.dueEach("at of no RUN", x::at, NOT, 0, 1, 2, 3, 4);
        check.due("at(5) of no RUN", x.at(5), 0);
        check.dueEach("at of no RUN, BAD ahead", x::at, BAD, Check.outside(5));
        x.begin(0, false);
        check.dueEach("at", x::at, BAD, Check.outside(5));
        check.dueAt(x, 0, 0, 1, 0, 0, 0);
    }

    /** Promise 27: "Of FRAME i (0 the first): 0 its ROUTINE, 1 INSTRUCTION." */
    private static void frames() {
        ThereAndBack x = Check.with("call 1;");
        Check.read(x, 1, "a += 1; call 2;");
        Check.read(x, 2, "a += 1; a += 1; call 0;");
        x.give(0, 0);
        for (int first = 0; first < 3; first++) {
            x.begin(first, false);
            check.due("run(300), four times through all three", x.run(300), 4 * (1 + 2 + 3) + first);
            check.due("at(3)", x.at(3), 12);
            for (int i = 0; i < 12; i++) {
                check.due("frame(" + i + ", 0)", x.frame(i, 0), (first + i) % 3);
                check.due("frame(" + i + ", 1)", x.frame(i, 1), (first + i) % 3);
            }
            check.due("frame(12, 0)", x.frame(12, 0), BAD);
            check.due("run(..), out of the last", x.run(-1 - first), 1 + first);
            check.due("frame(11, 0) of what is gone", x.frame(11, 0), BAD);
            check.due("frame(10, 0)", x.frame(10, 0), (first + 10) % 3);
        }
    }

    /** Promise 27: "BAD: also none such; NOT. (NOT ahead.)" */
    private static void frameRefused() {
        ThereAndBack x = Check.with("call 0;");
        check.dueEach("frame(i, 0) of no RUN", i -> x.frame(i, 0), NOT, Check.outside(11));
        check.dueEach("frame(0, what) of no RUN", what -> x.frame(0, what), NOT, Check.outside(1));
        check.due("frame(0, 0) of no RUN", x.frame(0, 0), NOT);
        x.begin(0, false);
        check.dueEach("frame(i, 0) without FRAMES", i -> x.frame(i, 0), BAD, Check.outside(-1));
        for (int frames = 1; frames <= 2; frames++) {
            x.go(false);
            check.dueEach("frame(i, 0) with " + frames, i -> x.frame(i, 0), BAD, Check.outside(frames - 1));
            check.dueEach("frame(i, 1) with " + frames, i -> x.frame(i, 1), BAD, Check.outside(frames - 1));
            check.dueEach("frame(0, what) with " + frames, what -> x.frame(0, what), BAD, Check.outside(1));
            check.due("frame(.., 0) of the last", x.frame(frames - 1, 0), 0);
            check.due("frame(.., 1) of the last", x.frame(frames - 1, 1), 0);
        }
    }

    /** Promise 28: "THE STATE and THE RUN as one number": of nothing, of little, of as much as can be. */
    private static void digests() {
        ThereAndBack x = Check.with("call 0;");
        x.begin(0, true);
        dueDigest(x);
        x.give(0, Integer.MIN_VALUE);
        x.give(25, Integer.MAX_VALUE);
        dueDigest(x);
        ThereAndBack full = Check.with("push a S;".repeat(30) + "uncall 9;");
        Check.read(full, 9, "uncall 9;");
        for (int k = 0; k < 26; k++) full.give(k, k - 13);
        for (int r = 0; r < 6; r++) {
            full.lay(r, r % 5, 12);
            for (int i = 0; i < 12; i++) full.set(r, r % 5, i, Long.MIN_VALUE | i - 6 | 1L << 31 | 1L << 15 | 1L << 7);
            full.put(r, r);
        }
        full.begin(0, false);
        check.due("run(300)", full.run(300), 42);
        check.due("at(3)", full.at(3), 12);
        dueDigest(full);
    }

    /** Promise 28: "(7 without a RUN)". */
    private static void digestWithoutARun() {
        ThereAndBack x = Check.with("a += 1;");
        dueDigest(x);
        long none = x.digest();
        x.begin(0, false);
        dueDigest(x);
        x.wipe();
        check.due("digest() behind wipe()", x.digest(), none);
        x.lay(0, 0, 12);
        x.type(32, 1);
        check.due("digest(): bench and tape do not count", x.digest(), none);
        x.put(0, 5);
        dueDigest(x);
    }

    private static void dueDigest(ThereAndBack x) {
        long h = 1;
        for (int k = 0; k < 26; k++) h = x.has(k) == 1 ? (31 * h + 1) * 31 + x.value(k) : 31 * h;
        for (int r = 0; r < 6; r++) {
            h = 31 * h + (x.row(r, 0) == NOT ? 0 : 1);
            if (x.row(r, 0) == NOT) continue;
            h = (31 * h + x.row(r, 0)) * 31 + x.row(r, 1);
            for (int i = 0; i < x.row(r, 1); i++) h = 31 * h + x.item(r, i);
        }
        for (int s = 0; s < 4; s++) {
            h = 31 * h + x.height(s);
            for (int i = 0; i < x.height(s); i++) h = 31 * h + x.piled(s, i);
        }
        check.due("digest()", x.digest(), withRun(x, h));
    }

    private static long withRun(ThereAndBack x, long h) {
        if (x.at(0) == NOT) return 31 * h + 7;
        for (int what = 0; what <= 3; what++) h = 31 * h + x.at(what);
        for (int i = 0; i < x.at(3); i++) h = (31 * h + x.frame(i, 0)) * 31 + x.frame(i, 1);
        return h;
    }
}

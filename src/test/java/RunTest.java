/** Promises 22 to 28: begin, go, run, goTo, at, frame, digest. */
final class RunTest {
    private static final Check check = new Check();
    private static final int BAD = ThereAndBack.BAD, NOT = ThereAndBack.NOT;
    private static final int NONE = 13, DEEP = 11, ENDED = 12, TEST = 15;

    public static void main(String[] args) {
        beginning();
        running();
        goingTo();
        ifs();
        froms();
        calls();
        uncalls();
        emptyRoutines();
        deepCalls();
        endsOfTheRun();
        digests();
        check.end();
    }

    private static void beginning() {
        ThereAndBack x = Check.with("a += 1; b += 1;");
        Check.read(x, 1, "set a = 1;");
        check.due("begin(10, false)", x.begin(10, false), BAD);
        check.due("begin(-1, true)", x.begin(-1, true), BAD);
        check.due("begin(2, false)", x.begin(2, false), NOT);
        check.due("begin(1, false)", x.begin(1, false), NOT);
        check.due("at(0)", x.at(0), NOT);
        check.due("at(6)", x.at(6), BAD);
        check.due("at(-1)", x.at(-1), BAD);
        check.due("at(5)", x.at(5), 0);
        check.due("begin(0, false)", x.begin(0, false), 2);
        check.dueAt(x, 0, 0, 1, 0, 0);
        check.due("at(6)", x.at(6), BAD);
        x.give(0, 0);
        check.due("go(false)", x.go(false), 1);
        check.dueAt(x, 0, 1, 1, 0, 1);
        check.due("begin(1, false), the run stays", x.begin(1, false), NOT);
        check.dueAt(x, 0, 1, 1, 0, 1);
        check.due("begin(0, true)", x.begin(0, true), 2);
        check.dueAt(x, 0, 2, -1, 0, 0);
        check.due("the state stays", x.value(0), 1);
        check.due("go(true) at the end", x.go(true), -32);
        check.due("go(false): b is not there", x.go(false), -21);
        x.give(1, 0);
        check.due("go(false)", x.go(false), 1);
        check.due("value(1)", x.value(1), -1);
        check.dueAt(x, 0, 1, -1, 0, 1);
        check.due("go(true)", x.go(true), 1);
        check.dueAt(x, 0, 2, -1, 0, 0);
    }

    private static void running() {
        ThereAndBack x = Check.with("a += 1; b += 1; call 9;");
        check.due("run(1) of no run", x.run(1), NOT);
        check.due("run(301) of no run", x.run(301), BAD);
        x.begin(0, false);
        check.due("run(300)", x.run(300), 0);
        check.due("at(5)", x.at(5), 1);
        check.due("run(301)", x.run(301), BAD);
        check.due("run(-301)", x.run(-301), BAD);
        check.due("run(least)", x.run(Integer.MIN_VALUE), BAD);
        check.due("at(5) stays by BAD", x.at(5), 1);
        check.due("run(0)", x.run(0), 0);
        check.due("at(5)", x.at(5), 0);
        x.give(0, 0);
        x.give(1, 0);
        check.due("run(2)", x.run(2), 2);
        check.due("at(5)", x.at(5), 0);
        check.due("run(5)", x.run(5), 0);
        check.due("at(5)", x.at(5), NONE);
        check.due("run(-1)", x.run(-1), 1);
        check.due("at(5)", x.at(5), 0);
        check.due("run(-300)", x.run(-300), 1);
        check.due("at(5)", x.at(5), ENDED);
        check.dueAt(x, 0, 0, 1, 0, 0);
        x.wipe();
        check.due("at(5) of no run", x.at(5), ENDED);
        check.due("go(false) of no run", x.go(false), NOT);
        check.due("at(5) stays by NOT", x.at(5), ENDED);
        check.due("at(4) of no run", x.at(4), NOT);
        x.begin(0, true);
        check.due("at(5) stays by begin", x.at(5), ENDED);
    }

    private static void goingTo() {
        ThereAndBack x = Check.with("from (b = 0) { } loop { b += 1; } until (b = 400);");
        check.due("goTo(999) of no run", x.goTo(999), NOT);
        x.give(1, 0);
        x.begin(0, false);
        check.due("goTo(301)", x.goTo(301), BAD);
        check.due("goTo(-301)", x.goTo(-301), BAD);
        check.due("goTo(300)", x.goTo(300), 300);
        check.due("at(4)", x.at(4), 300);
        check.due("goTo(-1)", x.goTo(-1), BAD);
        check.due("goTo(greatest)", x.goTo(Integer.MAX_VALUE), BAD);
        check.due("goTo(least)", x.goTo(Integer.MIN_VALUE), BAD);
        check.due("goTo(300) again", x.goTo(300), 0);
        check.due("at(5)", x.at(5), 0);
        check.due("goTo(600)", x.goTo(600), 300);
        check.due("goTo(597)", x.goTo(597), 3);
        check.due("at(4)", x.at(4), 597);
        check.due("goTo(300)", x.goTo(300), 297);
        check.due("goTo(0)", x.goTo(0), 300);
        check.due("value(1)", x.value(1), 0);
        check.due("goTo(-5)", x.goTo(-5), 0);
        check.due("at(5)", x.at(5), ENDED);
        x.begin(0, true);
        x.give(1, 400);
        check.due("goTo(-5) from the end", x.goTo(-5), 0);
        check.due("goTo(5) from the end", x.goTo(5), 5);
        check.due("value(1)", x.value(1), 399);
        check.due("steps below 0: run(-5)", x.run(-5), 5);
    }

    private static void ifs() {
        // IF 0, b += 1 at 1, ELSE 2, b += 2 at 3, FI 4
        ThereAndBack x = Check.with("if a { b += 1; } else { b += 2; } fi (b = 1);");
        x.give(0, 1);
        x.give(1, 0);
        duePlaces(x, false, 1, 2, 5);
        duePlacesRound(x, 2, 1, 0);
        x.give(0, 0);
        duePlaces(x, false, 3, 4, 5);
        duePlacesRound(x, 4, 3, 0);
        x.give(1, -1);
        duePlaces(x, false, 3, 4);
        dueRefused(x, false, TEST);
        x.give(1, 9);
        x.give(0, 1);
        duePlaces(x, false, 1, 2);
        dueRefused(x, false, TEST);

        // Back: into the first part by E2, out of it only by E1.
        x.give(1, 1);
        x.give(0, 1);
        duePlaces(x, true, 2, 1, 0);
        x.give(1, 1);
        x.give(0, 0);
        duePlaces(x, true, 2, 1);
        dueRefused(x, false, TEST);
        x.give(1, 2);
        x.give(0, 0);
        duePlaces(x, true, 4, 3, 0);
        x.give(1, 2);
        x.give(0, 1);
        duePlaces(x, true, 4, 3);
        dueRefused(x, false, TEST);

        // An E that is refused refuses.
        Check.read(x, 0, "if c { } else { } fi 1 / 0;");
        x.begin(0, false);
        dueRefused(x, false, 1);
        x.give(2, 0);
        duePlaces(x, false, 2);
        dueRefused(x, false, 4);
        x.begin(0, true);
        dueRefused(x, false, 4);
        Check.read(x, 0, "if a { } else { } fi 1;");
        x.give(0, 1);
        duePlaces(x, false, 1, 3);
        duePlaces(x, true, 1, 0);
    }

    private static void froms() {
        // FROM 0, b += 1 at 1, UNTIL 2, c += 1 at 3, LOOP 4
        ThereAndBack x = Check.with("from (a = 0) { b += 1; a += 1; } loop { c += 1; } until (c = 2);");
        for (int k = 0; k < 3; k++) x.give(k, 0);
        duePlaces(x, false, 1, 2, 3, 4, 5, 1, 2, 3, 4, 5, 1, 2, 3, 6);
        duePlacesRound(x, 3, 2, 1, 5, 4, 3, 2, 1, 5, 4, 3, 2, 1, 0);
        dueRefused(x, true, ENDED);
        x.give(0, 1);
        x.begin(0, false);
        dueRefused(x, false, TEST);
        x.give(0, 0);
        x.run(3);
        x.give(0, 0);
        x.run(2);
        dueRefused(x, false, TEST);

        x.give(0, 3);
        x.give(1, 3);
        x.give(2, 2);
        duePlaces(x, true, 3, 2, 1, 5, 4, 3, 2, 1, 5, 4, 3, 2, 1, 0);
        x.give(2, 1);
        x.begin(0, true);
        dueRefused(x, false, TEST);
        // Out of the second part, back over UNTIL, only where E2 is 0.
        x.give(2, 2);
        x.give(0, 3);
        x.begin(0, true);
        x.run(5);
        check.due("at(1)", x.at(1), 4);
        x.give(2, 2);
        dueRefused(x, false, TEST);
    }

    /** From the beginning (or from the end, back), GO by GO, the PLACES it comes to. */
    private static void duePlaces(ThereAndBack x, boolean back, int... places) {
        x.begin(0, back);
        for (int place : places) {
            check.due("go(false) to " + place, x.go(false), 1);
            check.due("at(1)", x.at(1), place);
        }
    }

    private static void duePlacesRound(ThereAndBack x, int... places) {
        for (int place : places) {
            check.due("go(true) to " + place, x.go(true), 1);
            check.due("at(1)", x.at(1), place);
        }
    }

    private static void dueRefused(ThereAndBack x, boolean round, int why) {
        long before = x.digest();
        int steps = x.at(4);
        check.due("go(" + round + ")", x.go(round), -20 - why);
        check.due("at(5)", x.at(5), why);
        check.due("digest()", x.digest(), before);
        check.due("at(4)", x.at(4), steps);
    }

    private static void calls() {
        ThereAndBack x = Check.with("a += 1; call 1; a += 3;");
        Check.read(x, 1, "b += 5;");
        x.give(0, 0);
        x.give(1, 0);
        x.begin(0, false);
        check.due("frame(0, 0)", x.frame(0, 0), BAD);
        x.run(2);
        check.dueAt(x, 1, 0, 1, 1, 2);
        check.due("frame(0, 0)", x.frame(0, 0), 0);
        check.due("frame(0, 1)", x.frame(0, 1), 1);
        check.due("frame(0, 2)", x.frame(0, 2), BAD);
        check.due("frame(0, -1)", x.frame(0, -1), BAD);
        check.due("frame(1, 0)", x.frame(1, 0), BAD);
        check.due("frame(-1, 0)", x.frame(-1, 0), BAD);
        x.go(false);
        check.dueAt(x, 1, 1, 1, 1, 3);
        x.go(false);
        check.dueAt(x, 0, 2, 1, 0, 4);
        x.go(true);
        check.dueAt(x, 1, 1, 1, 1, 3);
        x.run(-2);
        check.dueAt(x, 0, 1, 1, 0, 1);
        check.due("value(1)", x.value(1), 0);
        x.begin(0, true);
        x.run(2);
        check.dueAt(x, 1, 1, -1, 1, 2);
        x.run(2);
        check.dueAt(x, 0, 1, -1, 0, 4);
        check.due("value(1)", x.value(1), -5);
        x.begin(0, false);
        x.run(2);
        check.due("at(3)", x.at(3), 1);
        x.begin(0, false);
        check.dueAt(x, 0, 0, 1, 0, 0);
        x.wipe();
        check.due("frame(9, 9) of no run", x.frame(9, 9), NOT);
    }

    private static void uncalls() {
        ThereAndBack x = Check.with("a += 1; uncall 1; a += 3;");
        Check.read(x, 1, "b += 5; uncall 2;");
        Check.read(x, 2, "c += 7;");
        for (int k = 0; k < 3; k++) x.give(k, 0);
        x.begin(0, false);
        x.run(2);
        check.dueAt(x, 1, 2, -1, 1, 2);
        x.go(false);
        check.dueAt(x, 2, 0, 1, 2, 3);
        check.due("frame(1, 0)", x.frame(1, 0), 1);
        check.due("frame(1, 1)", x.frame(1, 1), 1);
        x.go(false);
        check.dueAt(x, 2, 1, 1, 2, 4);
        check.due("value(2)", x.value(2), 7);
        x.go(false);
        check.dueAt(x, 1, 1, -1, 1, 5);
        x.go(true);
        check.dueAt(x, 2, 1, 1, 2, 4);
        x.go(false);
        x.go(false);
        check.dueAt(x, 1, 0, -1, 1, 6);
        check.due("value(1)", x.value(1), -5);
        x.go(false);
        check.dueAt(x, 0, 2, 1, 0, 7);
        check.due("run(300)", x.run(300), 1);
        check.due("run(-300)", x.run(-300), 8);
        check.dueAt(x, 0, 0, 1, 0, 0);
        for (int k = 0; k < 3; k++) check.due("value(" + k + ")", x.value(k), 0);
        // Back over uncall: into the routine at PLACE 0, by the way there.
        x.begin(0, true);
        x.run(2);
        check.dueAt(x, 1, 0, 1, 1, 2);
        x.run(2);
        check.dueAt(x, 2, 1, -1, 2, 4);
        x.run(2);
        check.dueAt(x, 1, 2, 1, 1, 6);
        x.go(false);
        check.dueAt(x, 0, 1, -1, 0, 7);
        x.go(true);
        check.dueAt(x, 1, 2, 1, 1, 6);
        x.run(-300);
        check.dueAt(x, 0, 3, -1, 0, 0);
    }

    private static void emptyRoutines() {
        ThereAndBack x = Check.with("call 1; uncall 1;");
        Check.read(x, 1, "");
        x.begin(0, false);
        x.go(false);
        check.dueAt(x, 1, 0, 1, 1, 1);
        x.go(false);
        check.dueAt(x, 0, 1, 1, 0, 2);
        x.go(false);
        check.dueAt(x, 1, 0, -1, 1, 3);
        x.go(true);
        check.dueAt(x, 0, 1, 1, 0, 2);
        check.due("run(2)", x.run(2), 2);
        check.dueAt(x, 0, 2, 1, 0, 4);
        check.due("run(-300)", x.run(-300), 4);
        check.dueAt(x, 0, 0, 1, 0, 0);
    }

    private static void deepCalls() {
        ThereAndBack x = Check.with("call 0;");
        x.begin(0, false);
        check.due("run(300)", x.run(300), 12);
        check.due("at(5)", x.at(5), DEEP);
        check.due("at(3)", x.at(3), 12);
        check.due("frame(11, 0)", x.frame(11, 0), 0);
        check.due("frame(12, 0)", x.frame(12, 0), BAD);
        check.due("run(-300)", x.run(-300), 12);
        check.due("at(5)", x.at(5), ENDED);
        Check.read(x, 0, "a += 1; if a { call 1; } else { } fi a;");
        Check.read(x, 1, "call 9;");
        x.give(0, 0);
        x.begin(0, false);
        check.due("run(300) to one without a text", x.run(300), 3);
        check.due("at(5)", x.at(5), NONE);
        Check.read(x, 9, "set a = 1;");
        x.begin(1, false);
        check.due("an ordinary one", x.go(false), -20 - NONE);
        Check.read(x, 1, "call 1; call 9;");
        x.begin(1, false);
        x.run(300);
        check.due("at(5)", x.at(5), DEEP);
    }

    private static void endsOfTheRun() {
        ThereAndBack x = Check.with("a += 1;");
        Check.read(x, 1, "set a = a + 1;");
        Check.read(x, 2, "b += 1;");
        x.begin(0, false);
        Check.read(x, 5, "junk");
        check.due("a fault keeps it", x.at(0), 0);
        x.read(10);
        x.drop(9);
        x.mirror(1, 3);
        x.turn(0, 3);
        x.print(0);
        x.take();
        check.due("what changes no text keeps it", x.at(0), 0);
        x.read(5);
        check.due("read ends it", x.at(0), NOT);
        x.begin(0, false);
        x.mirror(2, 3);
        check.due("mirror ends it", x.at(0), NOT);
        x.begin(0, false);
        x.turn(1, 4);
        check.due("turn ends it", x.at(0), NOT);
        x.begin(0, false);
        x.drop(2);
        check.due("drop ends it", x.at(0), NOT);
        x.begin(0, false);
        x.wipe();
        check.due("wipe ends it", x.at(0), NOT);
    }

    private static void digests() {
        ThereAndBack x = Check.with("call 1;");
        Check.read(x, 1, "push c T; a += 1;");
        x.give(0, -9);
        x.give(2, 5);
        x.lay(0, 4, 2);
        x.set(0, 4, 1, -1);
        x.put(0, 1);
        check.due("digest without a run", x.digest(), digestOf(-9, 5, 7));
        x.begin(0, true);
        check.due("digest of a run", x.digest(), digestOf(-9, 5, 0, 1, -1, 0));
        x.begin(0, false);
        x.go(false);
        check.due("digest with a frame", x.digest(), digestOf(-9, 5, 1, 0, 1, 1, 0, 0));
        x.go(false);
        long h = 1;
        long[] numbers = {1, -9, 0, 1, 0};
        for (long n : numbers) h = 31 * h + n;
        for (int k = 3; k < 26; k++) h = 31 * h;
        long[] others = {0, 1, 4, 2, 0, 65535, 0, 0, 0, 0, 0, 1, 5, 0, 0, 1, 1, 1, 1, 0, 0};
        for (long n : others) h = 31 * h + n;
        check.due("digest with a pile", x.digest(), h);
    }

    /** With NAMES a and c, ROW B of chars 0, 65535, empty STACKS, and what stands for the run. */
    private static long digestOf(int a, int c, int... run) {
        long h = 1;
        long[] numbers = {1, a, 0, 1, c};
        for (long n : numbers) h = 31 * h + n;
        for (int k = 3; k < 26; k++) h = 31 * h;
        long[] rows = {0, 1, 4, 2, 0, 65535, 0, 0, 0, 0};
        for (long n : rows) h = 31 * h + n;
        for (int s = 0; s < 4; s++) h = 31 * h;
        for (int n : run) h = 31 * h + n;
        return h;
    }
}

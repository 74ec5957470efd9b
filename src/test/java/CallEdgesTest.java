/** The edges of Terms 3: call, uncall, the ends of ROUTINES, STEPS, how long THE RUN is there. One method a sentence. */
final class CallEdgesTest {
    private static final Check check = new Check();
    private static final int NOT = ThereAndBack.NOT;

    public static void main(String[] args) {
        noneToCall();
        deepest();
        noneAheadOfDeep();
        inAndOut();
        inAndOutOfNothing();
        endsWithoutFrames();
        stepsCounted();
        refusedDoesNothing();
        thereTillATextComes();
        staysWhereNoneComes();
        check.end();
    }

    /** Terms 3: "13 NONE (ROUTINE r has no TEXT, or an ORDINARY one)". */
    private static void noneToCall() {
        for (String key : new String[] {"call", "uncall"}) {
            for (int r : new int[] {1, 9}) {
                ThereAndBack x = Check.with(key + " " + r + ";");
                dueEntered(x, -20 - Why.NONE);
                Check.read(x, r, "set a = 1;");
                dueEntered(x, -20 - Why.NONE);
                Check.read(x, r, "");
                dueEntered(x, 1);
                Check.read(x, r, "a += 1;");
                dueEntered(x, 1);
                x.drop(r);
                dueEntered(x, -20 - Why.NONE);
            }
        }
    }

    /** The first GO from either end. */
    private static void dueEntered(ThereAndBack x, int want) {
        for (boolean back : new boolean[] {false, true}) {
            x.begin(0, back);
            check.due("go(false)", x.go(false), want);
            check.due("at(3)", x.at(3), want == 1 ? 1 : 0);
            check.due("at(5)", x.at(5), want == 1 ? 0 : -20 - want);
        }
    }

    /** Terms 3: "11 DEEP (there are 12 FRAMES)". */
    private static void deepest() {
        for (String key : new String[] {"call", "uncall"}) {
            for (boolean back : new boolean[] {false, true}) {
                ThereAndBack x = Check.with(key + " 0;");
                x.begin(0, back);
                check.due("run(11)", x.run(11), 11);
                check.due("at(3)", x.at(3), 11);
                check.due("the 12th FRAME", x.go(false), 1);
                check.due("at(3)", x.at(3), 12);
                long digest = x.digest();
                check.due("a 13th", x.go(false), -20 - Why.DEEP);
                check.due("at(5)", x.at(5), Why.DEEP);
                check.due("at(3)", x.at(3), 12);
                check.due("at(4)", x.at(4), 12);
                check.due("digest()", x.digest(), digest);
                check.due("run(300)", x.run(300), 0);
                check.due("go(true)", x.go(true), 1);
                check.due("at(3)", x.at(3), 11);
                check.due("run(-300)", x.run(-300), 11);
                check.due("at(5)", x.at(5), Why.ENDED);
                check.due("at(3)", x.at(3), 0);
            }
        }
    }

    /** Terms 3: "13 NONE ..; 11 DEEP ..": NONE is told first; each ROUTINE 0 within the others takes three GOES. */
    private static void noneAheadOfDeep() {
        String text = "a -= 1; if a { call 0; } else { call 9; } fi 1;";
        dueDeep(text, null, 12, 11 * 3 + 2, Why.NONE, 11);
        dueDeep(text, null, 13, 12 * 3 + 2, Why.NONE, 12);
        dueDeep(text, null, 14, 12 * 3 + 2, Why.DEEP, 12);
        dueDeep(text, "", 12, 11 * 3 + 2 + 2, Why.TEST, 11);
        dueDeep(text, "", 13, 12 * 3 + 2, Why.DEEP, 12);
        dueDeep(text, "set a = 1;", 13, 12 * 3 + 2, Why.NONE, 12);
    }

    private static void dueDeep(String text, String nine, int a, int goes, int why, int frames) {
        ThereAndBack x = Check.with(text);
        if (nine != null) Check.read(x, 9, nine);
        x.give(0, a);
        x.begin(0, false);
        check.due("run(300) of " + a, x.run(300), goes);
        check.due("at(5) of " + a, x.at(5), why);
        check.due("at(3) of " + a, x.at(3), frames);
        check.due("run(-300) of " + a, x.run(-300), goes);
        check.due("value(0)", x.value(0), a);
    }

    /** Terms 3: "a FRAME more (this ROUTINE, c); THE RUN is in ROUTINE r, at PLACE 0 (its last one, if just one ..)"; "At the end ..". */
    private static void inAndOut() {
        for (String key : new String[] {"call", "uncall"}) {
            for (boolean back : new boolean[] {false, true}) {
                ThereAndBack x = Check.with("a += 1; " + key + " 9; a += 1;");
                Check.read(x, 9, "b += 1; b += 2;");
                x.give(0, 0);
                x.give(1, 0);
                x.begin(0, back);
                dueInAndOut(x, key.equals("call"), back);
            }
        }
    }

    private static void dueInAndOut(ThereAndBack x, boolean isCall, boolean back) {
        int way = back ? -1 : 1;
        int innerWay = isCall ? way : -way;
        int entry = isCall == back ? 2 : 0;
        x.go(false);
        check.dueAt(x, 0, back ? 2 : 1, way, 0, 1);
        check.due("go(false), in", x.go(false), 1);
        check.dueAt(x, 9, entry, innerWay, 1, 2);
        check.due("frame(0, 0)", x.frame(0, 0), 0);
        check.due("frame(0, 1)", x.frame(0, 1), 1);
        check.due("go(true), out again", x.go(true), 1);
        check.dueAt(x, 0, back ? 2 : 1, way, 0, 1);
        check.due("run(3), in and through", x.run(3), 3);
        check.dueAt(x, 9, 2 - entry, innerWay, 1, 4);
        check.due("value(1)", x.value(1), entry == 0 ? 3 : -3);
        check.due("go(false), out", x.go(false), 1);
        check.dueAt(x, 0, back ? 1 : 2, way, 0, 5);
        check.due("go(true), in again from there", x.go(true), 1);
        check.dueAt(x, 9, 2 - entry, innerWay, 1, 4);
        check.due("run(300)", x.run(300), 2);
        check.dueAt(x, 0, back ? 0 : 3, way, 0, 6);
        check.due("run(-300)", x.run(-300), 6);
        check.dueAt(x, 0, back ? 3 : 0, way, 0, 0);
        check.due("value(1)", x.value(1), 0);
    }

    /** Terms 3: "at PLACE 0 (its last one ..)", "At the end of a ROUTINE": of no INSTRUCTION, where both are PLACE 0. */
    private static void inAndOutOfNothing() {
        for (String key : new String[] {"call", "uncall"}) {
            for (boolean back : new boolean[] {false, true}) {
                ThereAndBack x = Check.with(key + " 9;");
                Check.read(x, 9, "");
                int way = back ? -1 : 1;
                int innerWay = key.equals("call") ? way : -way;
                x.begin(0, back);
                check.due("go(false), in", x.go(false), 1);
                check.dueAt(x, 9, 0, innerWay, 1, 1);
                check.due("go(true), out again", x.go(true), 1);
                check.dueAt(x, 0, back ? 1 : 0, way, 0, 0);
                check.due("run(2), in and out", x.run(2), 2);
                check.dueAt(x, 0, back ? 0 : 1, way, 0, 2);
                check.due("run(-2)", x.run(-2), 2);
                check.dueAt(x, 0, back ? 1 : 0, way, 0, 0);
            }
        }
    }

    /** Terms 3: "At the end of a ROUTINE (FORWARD at its last PLACE, BACK at PLACE 0): 12 ENDED without a FRAME". */
    private static void endsWithoutFrames() {
        for (int n : new int[] {0, 1, 40}) {
            for (boolean back : new boolean[] {false, true}) {
                ThereAndBack x = Check.with("a += 1;".repeat(n));
                x.give(0, 0);
                x.begin(0, back);
                check.due("go(true) where it begins", x.go(true), -20 - Why.ENDED);
                check.due("at(4)", x.at(4), 0);
                check.due("run(300)", x.run(300), n);
                check.due("at(5)", x.at(5), Why.ENDED);
                check.due("go(false) at the end", x.go(false), -20 - Why.ENDED);
                check.due("at(1)", x.at(1), back ? 0 : n);
                check.due("run(-300)", x.run(-300), n);
                check.due("at(1)", x.at(1), back ? n : 0);
            }
        }
    }

    /** Terms 3: "Each of these is one GO: STEPS (0 as it begins) are 1 more (1 less, the other way round)." */
    private static void stepsCounted() {
        ThereAndBack x = Check.with("if 1 { call 1; } else { } fi 1; from 1 { } loop { } until 1;");
        Check.read(x, 1, "a += 1;");
        x.give(0, 0);
        for (boolean back : new boolean[] {false, true}) {
            x.begin(0, back);
            check.due("at(4)", x.at(4), 0);
            for (int n = 1; n <= 7; n++) {
                check.due("go(false)", x.go(false), 1);
                check.due("at(4)", x.at(4), n);
            }
            check.due("go(false)", x.go(false), -20 - Why.ENDED);
            check.due("at(4)", x.at(4), 7);
            for (int n = 6; n >= 0; n--) {
                check.due("go(true)", x.go(true), 1);
                check.due("at(4)", x.at(4), n);
            }
        }
    }

    /** Terms 3: "What is REFUSED does nothing." */
    private static void refusedDoesNothing() {
        ThereAndBack x = Check.with("push a S; uncall 1; a += 1;");
        Check.read(x, 1, "c += 1; b += 1;");
        x.give(0, 5);
        x.give(1, 5);
        x.begin(0, false);
        check.due("run(300)", x.run(300), 3);
        check.due("at(5)", x.at(5), Why.ABSENT);
        long digest = x.digest();
        for (int n = 0; n < 3; n++) {
            check.due("go(false)", x.go(false), -20 - Why.ABSENT);
            check.dueAt(x, 1, 1, -1, 1, 3);
            check.due("digest()", x.digest(), digest);
        }
        x.give(2, 5);
        check.due("run(300) where it is there", x.run(300), 3);
        check.due("at(5)", x.at(5), Why.ENDED);
        check.dueAt(x, 0, 3, 1, 0, 6);
    }

    /** Terms 3: "THE RUN is there from begin() on, till a ROUTINE gets a TEXT, or none": also another one than its own. */
    private static void thereTillATextComes() {
        for (int r : new int[] {0, 1, 9}) {
            ThereAndBack x = Check.with("a += 1;");
            Check.read(x, 1, "a += 2;");
            Check.read(x, 9, "a += 9;");
            Check.read(x, 2, "set a = 1;");
            dueNoRun(x, "read", Check.read(begun(x), r, "a += 3;"), 1);
            dueNoRun(x, "read of nothing", begun(x).read(r == 0 ? 3 : r), 0);
            dueNoRun(x, "mirror", begun(x).mirror(0, r), 1);
            dueNoRun(x, "turn", begun(x).turn(2, r == 0 ? 3 : r), 2);
            dueNoRun(x, "drop", begun(x).drop(r), r == 0 ? 1 : 2);
        }
    }

    private static ThereAndBack begun(ThereAndBack x) {
        check.due("begin(0, false)", x.begin(0, false), 1);
        check.due("at(4)", x.at(4), 0);
        return x;
    }

    private static void dueNoRun(ThereAndBack x, String call, int got, int want) {
        check.due(call, got, want);
        for (int what = 0; what < 5; what++) check.due("at(" + what + ") behind " + call, x.at(what), NOT);
        check.due("go(false) behind " + call, x.go(false), NOT);
        check.due("run(0) behind " + call, x.run(0), NOT);
        check.due("goTo(0) behind " + call, x.goTo(0), NOT);
        check.due("frame(0, 0) behind " + call, x.frame(0, 0), NOT);
    }

    /** Terms 3: "till a ROUTINE gets a TEXT, or none": calls by which none does keep THE RUN. */
    private static void staysWhereNoneComes() {
        ThereAndBack x = Check.with("a += 1; b += 1;");
        x.give(0, 0);
        x.begin(0, false);
        x.go(false);
        check.due("read(1) of a FAULT", Check.read(x, 1, "+"), -11);
        check.due("read(10)", x.read(10), ThereAndBack.BAD);
        check.due("drop(1)", x.drop(1), NOT);
        check.due("mirror(1, 0)", x.mirror(1, 0), NOT);
        check.due("turn(0, 0)", x.turn(0, 0), NOT);
        check.due("print(0)", x.print(0), 15);
        check.due("take()", x.take(), 15);
        check.due("give(1, 0)", x.give(1, 0), 0);
        check.due("lay(0, 0, 1)", x.lay(0, 0, 1), 1);
        check.due("put(0, 0)", x.put(0, 0), 1);
        check.dueAt(x, 0, 1, 1, 0, 1);
        check.due("go(false)", x.go(false), 1);
    }
}

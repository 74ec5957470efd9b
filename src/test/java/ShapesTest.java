/** Promises 11 to 13: mirror, turn, walk. */
final class ShapesTest {
    private static final Check check = new Check();
    private static final int BAD = ThereAndBack.BAD, NOT = ThereAndBack.NOT, FULL = ThereAndBack.FULL;

    public static void main(String[] args) {
        mirroring();
        turning();
        turningWrong();
        turnedRunsAsWalked();
        walking();
        walkingWrong();
        check.end();
    }

    private static void mirroring() {
        dueMirror("let a = 1; unlet b = 2; c += 3; c -= 4; c ^= 5; c << 6; c >> 7; c <> A[d];",
            "c <> A[d]; c << 7; c >> 6; c ^= 5; c += 4; c -= 3; let b = 2; unlet a = 1;");
        dueMirror("push a S; pop b T; new A int 1; end B long 2; call 3; uncall 4;",
            "call 4; uncall 3; new B long 2; end A int 1; push b T; pop a S;");
        dueMirror("x += 1; if (a = 1) { b += 1; c += 2; } else { d += 3; e <> f; } fi b; y += 1;",
            "y -= 1; if b { c -= 2; b -= 1; } else { e <> f; d -= 3; } fi (a = 1); x -= 1;");
        dueMirror("from a { b += 1; c += 2; } loop { if d { } else { e += 1; } fi f; g += 1; } until h;",
            "from h { c -= 2; b -= 1; } loop { g -= 1; if f { } else { e -= 1; } fi d; } until a;");
        dueMirror("A[((((((((1))))))))] += b; c <> A[--------1]; B[(-(-(-(-c))))] << 2; A[--------0] <> B[((((((((0))))))))];",
            "A[--------0] <> B[((((((((0))))))))]; B[(-(-(-(-c))))] >> 2; c <> A[--------1]; A[((((((((1))))))))] -= b;");
        dueMirror("", "");

        ThereAndBack x = Check.with("a += 1; b -= 2;");
        check.due("mirror(0, 0)", x.mirror(0, 0), 2);
        check.dueText("mirrored in place", Check.printed(x, 0), "b += 2; a -= 1;");
        check.due("mirror(1, 0)", x.mirror(1, 0), NOT);
        check.due("mirror(0, 10)", x.mirror(0, 10), BAD);
        check.due("mirror(-1, 0)", x.mirror(-1, 0), BAD);
        check.due("mirror(1, 10)", x.mirror(1, 10), BAD);
        Check.read(x, 1, "set a = 1;");
        check.due("mirror of an ordinary one", x.mirror(1, 0), NOT);
        check.dueText("nothing was changed", Check.printed(x, 0), "b += 2; a -= 1;");
    }

    private static void dueMirror(String text, String want) {
        ThereAndBack x = Check.with(text);
        int n = x.told(0, 0);
        check.due("mirror of " + text, x.mirror(0, 1), n);
        check.dueText("mirror of " + text, Check.printed(x, 1), want);
        x.mirror(1, 2);
        check.due("the mirror's mirror of " + text, x.same(0, 2), 1);
    }

    private static void turning() {
        dueTurned("set a = a + 1;", "a += 1;");
        dueTurned("set a = a - b * c;", "a -= b * c;");
        dueTurned("set a = a ^ (b + c);", "a ^= (b + c);");
        dueTurned("set a = a - -b;", "a -= -b;");
        dueTurned("set a = a + b * -c;", "a += b * -c;");
        dueTurned("set a = a + A[b - 1];", "a += A[b - 1];");
        dueTurned("set a = 5;", "push a V; a += 5;");
        dueTurned("set a = b + c;", "push a V; a += b + c;");
        dueTurned("set a = a;", "let z = a; a <> z; push z V; unlet z = 0;");
        dueTurned("set a = a + a;", "let z = a + a; a <> z; push z V; unlet z = 0;");
        dueTurned("set a = a + b + c;", "let z = a + b + c; a <> z; push z V; unlet z = 0;");
        dueTurned("set a = a + b | c;", "let z = a + b | c; a <> z; push z V; unlet z = 0;");
        dueTurned("set a = a | b;", "let z = a | b; a <> z; push z V; unlet z = 0;");
        dueTurned("set a = a * b;", "let z = a * b; a <> z; push z V; unlet z = 0;");
        dueTurned("set a = a * b + c;", "let z = a * b + c; a <> z; push z V; unlet z = 0;");
        dueTurned("set a = (a) + b;", "let z = (a) + b; a <> z; push z V; unlet z = 0;");
        dueTurned("set a = b + a;", "let z = b + a; a <> z; push z V; unlet z = 0;");
        dueTurned("set a = a + A[a];", "let z = a + A[a]; a <> z; push z V; unlet z = 0;");
        dueTurned("while (a < 5) { set a = a + 1; };", "let y = 0; from (y = 0) { } loop { a += 1; y += 1; } "
            + "until ((a < 5) = 0); push y V; unlet y = 0;");
        dueTurned("while b - 1 { };", "let y = 0; from (y = 0) { } loop { y += 1; } until (b - 1 = 0); push y V; unlet y = 0;");
        dueTurned("when a { set b = 1; } else { set b = b - 1; };", "let y = (a = 0); if (y = 0) { push b V; b += 1; } "
            + "else { b -= 1; } fi (y = 0); push y V; unlet y = 0;");
        dueTurned("while a { when b { } else { while c { when d { set e = 1; } else { }; }; }; }; when e { } else { };",
            "let y = 0; from (y = 0) { } loop { let x = (b = 0); if (x = 0) { } else { "
            + "let w = 0; from (w = 0) { } loop { let v = (d = 0); if (v = 0) { push e V; e += 1; } else { } fi (v = 0); "
            + "push v V; unlet v = 0; w += 1; } until (c = 0); push w V; unlet w = 0; } fi (x = 0); push x V; unlet x = 0; "
            + "y += 1; } until (a = 0); push y V; unlet y = 0; "
            + "let y = (e = 0); if (y = 0) { } else { } fi (y = 0); push y V; unlet y = 0;");
        dueTurned("while a { while a { while a { while a { while a { }; }; }; }; };", fiveWhiles(0));
    }

    private static String fiveWhiles(int depth) {
        if (depth == 5) return "";
        char c = (char) ('y' - depth);
        return "let " + c + " = 0; from (" + c + " = 0) { } loop { " + fiveWhiles(depth + 1) + (depth < 4 ? " " : "") + c
            + " += 1; } until (a = 0); push " + c + " V; unlet " + c + " = 0;";
    }

    private static void dueTurned(String text, String want) {
        ThereAndBack x = Check.with(text);
        int n = x.turn(0, 1);
        check.dueText("turned " + text, Check.printed(x, 1), want);
        ThereAndBack y = Check.with(want);
        check.due("turn of " + text, n, y.told(0, 0));
        for (int what = 0; what < 5; what++) check.due("told(1, " + what + ") of " + want, x.told(1, what), y.told(0, what));
    }

    private static void turningWrong() {
        ThereAndBack x = Check.with("a += 1;");
        Check.read(x, 2, "set b = b + 1;");
        check.due("turn of none", x.turn(1, 0), NOT);
        check.due("turn of one that is not ordinary", x.turn(0, 1), NOT);
        check.due("turn(10, 0)", x.turn(10, 0), BAD);
        check.due("turn(0, -1)", x.turn(0, -1), BAD);
        for (char c = 'u'; c <= 'z'; c++) {
            Check.read(x, 1, "set a = " + c + ";");
            check.due("turn with " + c, x.turn(1, 0), NOT);
        }
        Check.read(x, 1, "set t = 1;");
        check.due("turn with t", x.turn(1, 1), 2);
        Check.read(x, 1, "set a = a * a;".repeat(10));
        check.due("turn to 40", x.turn(1, 3), 40);
        Check.read(x, 1, "set a = a * a;".repeat(10) + "set a = a + 1;");
        check.due("turn to 41", x.turn(1, 0), FULL);
        check.dueText("nothing was changed", Check.printed(x, 0), "a += 1;");
        Check.read(x, 1, "");
        check.due("turn of an empty one", x.turn(1, 0), NOT);
        check.due("turn in place", x.turn(2, 2), 1);
        check.dueText("turned in place", Check.printed(x, 2), "b += 1;");
        // A while makes seven, a when six.
        Check.read(x, 1, "while a { };".repeat(5) + "set a = a + 1;".repeat(5));
        check.due("five whiles and five", x.turn(1, 4), 40);
        Check.read(x, 1, "when a { } else { };".repeat(6) + "set a = 1;".repeat(2));
        check.due("six whens and two", x.turn(1, 4), 40);
    }

    private static void turnedRunsAsWalked() {
        String[] texts = {
            "set b = 0; while (b < 5) { set b = b + 1; set c = c * b; };",
            "when (a < 3) { set b = a * a; } else { set b = -a; set c = b; };",
            "while ((((((((2 - a)))))))) { set a = --------2; };",
            "set a = 7; set b = 0; while a { when (a % 2) { set b = b + a; } else { set b = b * 2; }; set a = a - 1; };",
        };
        for (String text : texts) {
            ThereAndBack x = Check.with(text);
            for (int k = 0; k < 3; k++) x.give(k, k + 1);
            check.due("walk of " + text, x.walk(0, 400) > 0 ? 1 : 0, 1);
            int[] walked = {x.value(0), x.value(1), x.value(2)};
            x.wipe();
            for (int k = 0; k < 3; k++) x.give(k, k + 1);
            x.turn(0, 1);
            x.begin(1, false);
            long before = x.digest();
            int steps = x.run(300);
            check.due("run to the end of turned " + text, x.at(5), 12);
            for (int k = 0; k < 3; k++) check.due("value(" + k + ") of turned " + text, x.value(k), walked[k]);
            check.due("and back", x.run(-300), steps);
            check.due("digest of turned " + text, x.digest(), before);
        }
    }

    private static void walking() {
        ThereAndBack x = Check.with("set a = 3; while a { set b = a * 2; set a = a - 1; }; when b { set c = 1; } else { set c = 2; };");
        check.due("walk(0, 400)", x.walk(0, 400), 1 + 4 + 6 + 2);
        check.due("value(0)", x.value(0), 0);
        check.due("value(1)", x.value(1), 2);
        check.due("value(2)", x.value(2), 1);
        x.wipe();
        check.due("walk(0, 13)", x.walk(0, 13), 13);
        x.wipe();
        check.due("walk(0, 12)", x.walk(0, 12), FULL);
        check.due("has(2): its set was the 13th", x.has(2), 0);
        check.due("what was done stays", x.value(1), 2);
        Check.read(x, 1, "when a { set b = 1; } else { set b = 9; set d = 999999999 * 9; };");
        check.due("the second part", x.walk(1, 3), 3);
        check.due("value(1)", x.value(1), 9);
        check.due("cut to an int", x.value(3), (int) (999999999L * 9));
        Check.read(x, 1, "while 1 { };");
        check.due("without end", x.walk(1, 400), FULL);
        check.due("n is 0", x.walk(1, 0), FULL);
        x.begin(2, false);
        Check.read(x, 2, "a += 1;");
        x.begin(2, false);
        x.walk(0, 400);
        check.due("the run stays", x.at(0), 2);
    }

    private static void walkingWrong() {
        ThereAndBack x = Check.with("set a = 1; set b = c;");
        check.due("ABSENT", x.walk(0, 9), -21);
        check.due("what was done stays", x.value(0), 1);
        Check.read(x, 1, "while A[0] { };");
        check.due("MISSING", x.walk(1, 9), -22);
        x.lay(0, 0, 1);
        x.put(0, 0);
        check.due("a row", x.walk(1, 9), 1);
        Check.read(x, 1, "when A[1] { } else { };");
        check.due("OUTSIDE", x.walk(1, 9), -23);
        Check.read(x, 1, "set a = 1 % A[0];");
        check.due("ZERO", x.walk(1, 9), -24);
        check.due("FULL ahead of what would be refused", x.walk(1, 0), FULL);
        check.due("walk(1, 401)", x.walk(1, 401), BAD);
        check.due("walk(1, -1)", x.walk(1, -1), BAD);
        check.due("walk(10, 1)", x.walk(10, 1), BAD);
        check.due("walk(2, 1)", x.walk(2, 1), NOT);
        check.due("walk(2, 401)", x.walk(2, 401), BAD);
        Check.read(x, 2, "a += 1;");
        check.due("walk of one that is not ordinary", x.walk(2, 1), NOT);
        check.due("at(5) tells of runs alone", x.at(5), 0);
    }
}

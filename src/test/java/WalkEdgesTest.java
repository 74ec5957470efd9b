/** The edges of promise 13, walk, and of what Terms 4 says of it. One method a sentence, which its remark names. */
final class WalkEdgesTest {
    private static final Check check = new Check();
    private static final int BAD = ThereAndBack.BAD, NOT = ThereAndBack.NOT, FULL = ThereAndBack.FULL;

    public static void main(String[] args) {
        sets();
        whiles();
        whens();
        moves();
        mostMoves();
        refused();
        full();
        wrong();
        check.end();
    }

    /** Terms 4: "set N = E: E; N is there then, E cut to an int". */
    private static void sets() {
        dueSet("2147483647", Integer.MAX_VALUE);
        dueSet("2147483648", Integer.MIN_VALUE);
        dueSet("4294967295", -1);
        dueSet("4294967296", 0);
        dueSet("4294967297", 1);
        dueSet("-2147483648", Integer.MIN_VALUE);
        dueSet("-2147483649", Integer.MAX_VALUE);
        ThereAndBack x = Check.with("set a = a + 1;");
        check.due("walk(0, 1) without a", x.walk(0, 1), -20 - Why.ABSENT);
        check.due("has(0)", x.has(0), 0);
        x.give(0, Integer.MAX_VALUE);
        check.due("walk(0, 1)", x.walk(0, 1), 1);
        check.due("value(0)", x.value(0), Integer.MIN_VALUE);
    }

    /** The NUMBERS of a TEXT end at nine digits: this one is the ITEM of a ROW of longs. */
    private static void dueSet(String e, int want) {
        Scene scene = new Scene(check, "set a = B[0];").row('B', Why.LONG, Long.parseLong(e));
        check.due("walk(0, 1) of " + e, scene.x.walk(0, 1), 1);
        scene.isName('a', want);
        check.due("walk(0, 1) where a is there", scene.x.walk(0, 1), 1);
        scene.isName('a', want);
    }

    /** Terms 4: "while: E; as long as that is not 0 what is within, and E again". */
    private static void whiles() {
        for (int n = 0; n <= 3; n++) {
            Scene scene = new Scene(check, "while a { set a = a - 1; set b = b + 1; };").name('a', n).name('b', 0);
            check.due("walk(0, 400) of " + n, scene.x.walk(0, 400), 1 + 3 * n);
            scene.isName('a', 0).isName('b', n);
        }
        Scene below = new Scene(check, "while a { set a = a + 1; };").name('a', -2);
        check.due("walk(0, 400) of -2", below.x.walk(0, 400), 5);
        Scene high = new Scene(check, "while B[0] { set a = 1; };").row('B', Why.LONG, 1L << 32);
        check.due("walk(0, 2) of what would be 0 if it were cut", high.x.walk(0, 2), FULL);
        high.isName('a', 1);
        Scene inner = new Scene(check, "while a { while b { set b = b - 1; }; set a = a - 1; };").name('a', 2).name('b', 2);
        check.due("walk(0, 400) of one within another", inner.x.walk(0, 400), 3 + 3 + 2 + 1 + 2);
    }

    /** Terms 4: "when: E; the first part if it is not 0, else the second." */
    private static void whens() {
        for (int a = -1; a <= 1; a++) {
            Scene scene = new Scene(check, "when a { set b = 1; } else { set b = 2; set c = 3; };").name('a', a);
            check.due("walk(0, 9) of " + a, scene.x.walk(0, 9), a != 0 ? 2 : 3);
            scene.isName('b', a != 0 ? 1 : 2);
            check.due("has(2)", scene.x.has(2), a != 0 ? 0 : 1);
        }
        Scene high = new Scene(check, "when B[0] { set b = 1; } else { };").row('B', Why.LONG, 1L << 32);
        check.due("walk(0, 9) of what would be 0 if it were cut", high.x.walk(0, 9), 2);
        Scene empty = new Scene(check, "when 1 { } else { }; when 0 { } else { };");
        check.due("walk(0, 9) of empty parts", empty.x.walk(0, 9), 2);
        for (int a = 0; a <= 1; a++) {
            Scene behind = new Scene(check, "when a { set b = 1; } else { set b = 2; }; set c = 3; set d = 4;").name('a', a);
            check.due("walk(0, 9) of what stands behind", behind.x.walk(0, 9), 4);
            behind.isName('c', 3).isName('d', 4);
        }
    }

    /** Terms 4: "Each set, each E of while and when is a MOVE as it begins." */
    private static void moves() {
        dueMoves("set a = 1;", 1);
        dueMoves("set a = 1; set a = 2;", 2);
        dueMoves("while 0 { set a = 1; };", 1);
        dueMoves("set a = 2; while a { set a = a - 1; };", 1 + 3 + 2);
        dueMoves("when 0 { set a = 1; } else { };", 1);
        dueMoves("when 1 { set a = 1; } else { };", 2);
        dueMoves("set a = 1; while a { when a { set a = 0; } else { }; };", 1 + 2 + 1 + 1);
    }

    /** One less than it needs is FULL, what it needs leads to its end, and one more alike. */
    private static void dueMoves(String text, int want) {
        ThereAndBack x = Check.with(text);
        check.due("walk with one less of " + text, x.walk(0, want - 1), FULL);
        check.due("walk with just so many of " + text, x.walk(0, want), want);
        check.due("walk with one more of " + text, x.walk(0, want + 1), want);
        check.due("walk with the most of " + text, x.walk(0, 400), want);
    }

    /** Promise 13: "n MOVES (0 .. 400) at most: how many were made, if it came to its end". */
    private static void mostMoves() {
        String text = "set a = 0; while (a < 199) { set a = a + 1; };";
        ThereAndBack x = Check.with(text);
        check.due("walk(0, 399)", x.walk(0, 399), FULL);
        check.due("value(0)", x.value(0), 199);
        check.due("walk(0, 400)", x.walk(0, 400), 400);
        check.due("walk(0, 401)", x.walk(0, 401), BAD);
        Check.read(x, 0, "set b = 0; " + text);
        check.due("walk(0, 400) of 401", x.walk(0, 400), FULL);
        check.due("walk(0, 0)", x.walk(0, 0), FULL);
        check.due("walk(0, 1)", x.walk(0, 1), FULL);
        check.due("walk(0, -1)", x.walk(0, -1), BAD);
        check.due("value(0) behind these", x.value(0), 199);
    }

    /** Promise 13: "-20 less what REFUSED it .. (by both what was done stays)". */
    private static void refused() {
        String[] wrong = {"b", "C[0]", "A[2]", "1 / A[0]", "1 % (a - a)", "A[b]", "#C"};
        int[] why = {Why.ABSENT, Why.MISSING, Why.OUTSIDE, Why.ZERO, Why.ZERO, Why.ABSENT, Why.MISSING};
        for (int i = 0; i < wrong.length; i++) {
            dueRefused("set a = 7; set d = " + wrong[i] + "; set a = 8;", why[i]);
            dueRefused("set a = 7; while " + wrong[i] + " { }; set a = 8;", why[i]);
            dueRefused("set a = 7; when " + wrong[i] + " { } else { }; set a = 8;", why[i]);
        }
    }

    private static void dueRefused(String text, int why) {
        Scene scene = new Scene(check, text).name('a', 1).row('A', Why.INT, 0, 0);
        check.due("walk(0, 400) of " + text, scene.x.walk(0, 400), -20 - why);
        scene.isName('a', 7).isNoName('d');
        scene.name('a', 1);
        check.due("walk(0, 2) of " + text, scene.x.walk(0, 2), -20 - why);
        check.due("walk(0, 1), FULL ahead of it", scene.x.walk(0, 1), FULL);
        check.due("at(5) tells of no walk", scene.x.at(5), 0);
    }

    /** Promise 13: "FULL: one more was to begin (by both what was done stays)." */
    private static void full() {
        ThereAndBack x = Check.with("set a = 1; set b = 2; set c = 3;");
        for (int n = 0; n <= 3; n++) {
            x.wipe();
            check.due("walk(0, " + n + ")", x.walk(0, n), n < 3 ? FULL : 3);
            for (int k = 0; k < 3; k++) check.due("has(" + k + ") behind " + n, x.has(k), k < n ? 1 : 0);
        }
        Check.read(x, 1, "while 1 { };");
        check.due("walk(1, 400) without end", x.walk(1, 400), FULL);
        check.due("walk(0, 400) behind it", x.walk(0, 400), 3);
    }

    /** Promise 13: "NOT: also it is not ORDINARY .. BAD. (BAD, NOT ahead.)" */
    private static void wrong() {
        ThereAndBack x = Check.with("set a = 1;");
        Check.read(x, 1, "a += 1;");
        Check.read(x, 2, "");
        x.begin(1, false);
        check.dueEach("walk(r, 9)", r -> x.walk(r, 9), BAD, Check.outside(9));
        check.dueEach("walk(0, n)", n -> x.walk(0, n), BAD, Check.outside(400));
        check.dueEach("walk(3, n), BAD ahead of NOT", n -> x.walk(3, n), BAD, Check.outside(400));
        check.dueEach("walk(r, 9)", r -> x.walk(r, 9), NOT, 1, 2, 3, 9);
        check.dueEach("walk(r, 0), NOT ahead of FULL", r -> x.walk(r, 0), NOT, 1, 2, 3, 9);
        check.due("has(0): nothing was done", x.has(0), 0);
        check.due("walk(0, 9)", x.walk(0, 9), 1);
        check.due("at(0): the RUN stays", x.at(0), 1);
        check.due("at(1)", x.at(1), 0);
        check.due("go(false)", x.go(false), 1);
    }
}

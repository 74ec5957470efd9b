/** The edges of Terms 2, THE STATE, up to what E comes to and what REFUSES it. One method a sentence, which its remark names. */
final class WorthEdgesTest {
    private static final Check check = new Check();
    private static final long LEAST = Long.MIN_VALUE, MOST = Long.MAX_VALUE;

    public static void main(String[] args) {
        namesAreInts();
        rowsOfItems();
        oneRowSeveralTimes();
        stacksOfThirty();
        namesAndItems();
        counts();
        sumsGoRound();
        productsGoRound();
        cutTowardNaught();
        lessAndEqual();
        deepest();
        absent();
        missing();
        missingBehindE();
        outside();
        zero();
        fromTheLeft();
        check.end();
    }

    /** Terms 2: "NAMES are there (ints) or not". */
    private static void namesAreInts() {
        for (int v : new int[] {Integer.MIN_VALUE, -1, 0, 1, Integer.MAX_VALUE}) {
            ThereAndBack x = new ThereAndBack();
            check.due("has(25)", x.has(25), 0);
            check.due("give(25, " + v + ")", x.give(25, v), 0);
            check.due("has(25)", x.has(25), 1);
            check.due("value(25)", x.value(25), v);
        }
        new Scene(check, "a += 1;").name('a', Integer.MAX_VALUE).done().isName('a', Integer.MIN_VALUE);
        new Scene(check, "a -= 1;").name('a', Integer.MIN_VALUE).done().isName('a', Integer.MAX_VALUE);
    }

    /** Terms 2: "ROWS are there, with a KIND and 0 to 12 ITEMS, or not". */
    private static void rowsOfItems() {
        for (int kind = 0; kind <= 4; kind++) {
            String text = "new D " + Why.KINDS[kind] + " ";
            for (int n : new int[] {0, 1, 11, 12}) new Scene(check, text + n + ";").done().isRow('D', kind, new long[n]);
            new Scene(check, text + "13;").refused(Why.SIZE).isNoRow('D');
        }
        new Scene(check, "D[11] += 1;").row('D', Why.BYTE, new long[12]).done().isRow('D', Why.BYTE, 0, 0, 0, 0, 0, 0, 0, 0, 0, 0, 0, 1);
        new Scene(check, "D[12] += 1;").row('D', Why.BYTE, new long[12]).refused(Why.OUTSIDE);
    }

    /** Terms 2: "one and the same row of ITEMS may be several ROWS." */
    private static void oneRowSeveralTimes() {
        Scene scene = new Scene(check, "A[0] += 5;").row('A', Why.SHORT, 1, 2);
        for (char r = 'B'; r <= 'F'; r++) scene.alias(r, 'A');
        scene.done();
        for (char r = 'A'; r <= 'F'; r++) scene.isRow(r, Why.SHORT, 6, 2);
        check.due("wipe() counts each", scene.x.wipe(), 6);
        Scene end = new Scene(check, "end A int 2;").row('A', Why.INT, 0, 0).alias('B', 'A');
        end.done().isNoRow('A').isRow('B', Why.INT, 0, 0);
    }

    /** Terms 2: "STACKS have up to 30 ints." */
    private static void stacksOfThirty() {
        for (char s = 'S'; s <= 'V'; s++) {
            ThereAndBack x = piled(s, 29);
            check.due("the 30th on " + s, x.go(false), 1);
            check.due("height", x.height(s - 'S'), 30);
            check.due("piled(.., 29)", x.piled(s - 'S', 29), 7);
            x.give(0, 8);
            check.due("the 31st on " + s, x.go(false), -20 - Why.FULL);
            check.due("height", x.height(s - 'S'), 30);
            check.due("value(0) stays", x.value(0), 8);
            x.give(0, 0);
            check.due("back", x.go(true), 1);
            check.due("height", x.height(s - 'S'), 29);
            check.due("value(0)", x.value(0), 7);
        }
        ThereAndBack x = piled('S', 30);
        Check.read(x, 1, "push a T;");
        x.begin(1, false);
        check.due("another STACK is not full", x.go(false), 1);
    }

    /** 40 times push a, of which n are done; a is 7 ahead of the next. */
    private static ThereAndBack piled(char s, int n) {
        ThereAndBack x = Check.with(("push a " + s + ";").repeat(40));
        x.give(0, 1);
        x.begin(0, false);
        check.due("run(" + n + ")", x.run(n), n);
        x.give(0, 7);
        return x;
    }

    /** Terms 2: "E comes to a long: NAMES, ITEMS (chars 0 .. 65535)". */
    private static void namesAndItems() {
        for (int v : new int[] {Integer.MIN_VALUE, -1, 0, Integer.MAX_VALUE}) {
            new Scene(check, "A[0] += a;").name('a', v).row('A', Why.LONG, 0).done().isRow('A', Why.LONG, v);
        }
        for (int kind = 0; kind <= 4; kind++) {
            for (long v : new long[] {Why.LEAST[kind], -1, 0, 1, Why.MOST[kind]}) {
                long read = kind == Why.CHAR ? v & 65535 : v;
                new Scene(check, "A[0] += B[0];").row('A', Why.LONG, 0).row('B', kind, v).done().isRow('A', Why.LONG, read);
            }
        }
    }

    /** Terms 2: "# R how many ITEMS": none, one, twelve. */
    private static void counts() {
        for (int n : new int[] {0, 1, 11, 12}) dueWorth("#C", n, n);
    }

    /** Terms 2: "sums and products go round": sums. */
    private static void sumsGoRound() {
        dueWorth("B[1] + 0", MOST);
        dueWorth("B[1] + 1", LEAST);
        dueWorth("B[1] + B[1]", -2);
        dueWorth("B[0] - 0", LEAST);
        dueWorth("B[0] - 1", MOST);
        dueWorth("B[0] + B[0]", 0);
        dueWorth("-B[1]", LEAST + 1);
        dueWorth("-B[0]", LEAST);
        dueWorth("0 - B[0]", LEAST);
        dueWorth("B[0] ^ B[1]", -1);
        dueWorth("B[0] | B[1]", -1);
    }

    /** Terms 2: "sums and products go round": products. */
    private static void productsGoRound() {
        dueWorth("B[1] * 1", MOST);
        dueWorth("B[1] * 2", -2);
        dueWorth("B[0] * 2", 0);
        dueWorth("B[0] * -1", LEAST);
        dueWorth("B[1] * -1", LEAST + 1);
        dueWorth("B[1] * B[1]", 1);
        dueWorth("65536 * 65536 * 32767", 0x7FFFL << 32);
        dueWorth("65536 * 65536 * 65536 * 32768", LEAST);
        dueWorth("65536 * 65536 * 65536 * 65536", 0);
        dueWorth("B[0] & B[1]", 0);
    }

    /** Terms 2: "/ and % cut toward 0". */
    private static void cutTowardNaught() {
        long[][] cases = {{6, 3, 2, 0}, {7, 3, 2, 1}, {8, 3, 2, 2}, {-6, 3, -2, 0}, {-7, 3, -2, -1}, {-8, 3, -2, -2},
            {7, -3, -2, 1}, {-7, -3, 2, -1}, {2, 3, 0, 2}, {-2, 3, 0, -2}, {0, 3, 0, 0}, {1, 1, 1, 0}, {-1, 1, -1, 0}};
        for (long[] c : cases) {
            dueWorth(c[0] + " / " + c[1], c[2]);
            dueWorth(c[0] + " % " + c[1], c[3]);
        }
        dueWorth("B[0] / -1", LEAST);
        dueWorth("B[0] % -1", 0);
        dueWorth("(B[0] + 1) / -1", MOST);
        dueWorth("B[0] / B[0]", 1);
        dueWorth("B[1] / B[0]", 0);
        dueWorth("B[1] % B[0]", MOST);
        dueWorth("B[0] / B[1]", -1);
        dueWorth("B[0] % B[1]", -1);
    }

    /** Terms 2: "( .. < .. ), ( .. = .. ) 1 or 0". */
    private static void lessAndEqual() {
        dueWorth("(4 < 5)", 1);
        dueWorth("(5 < 5)", 0);
        dueWorth("(6 < 5)", 0);
        dueWorth("(4 = 5)", 0);
        dueWorth("(5 = 5)", 1);
        dueWorth("(6 = 5)", 0);
        dueWorth("(B[0] < B[1])", 1);
        dueWorth("(B[1] < B[0])", 0);
        dueWorth("(B[0] < B[0])", 0);
        dueWorth("(B[0] = B[0])", 1);
        dueWorth("(-1 < 0)", 1);
        dueWorth("(65536 * 65536 = 0)", 0);
        dueWorth("(65536 * 65536 < 1)", 0);
        dueWorth("(B[1] + 1 < 0)", 1);
        dueWorth("(4 < 5) + 1", 2);
        dueWorth("(5 = 5) * 3 - 1", 2);
        dueWorth("((4 < 5) = (5 = 5)) + 1", 2);
    }

    /** Terms 1: "a ( or [ or - of an F within eight others of these": what is as deep as can be comes to a worth, too. */
    private static void deepest() {
        dueWorth("-------5", -5);
        dueWorth("--------5", 5);
        dueWorth("(((((((5)))))))", 5);
        dueWorth("((((((((5))))))))", 5);
        dueWorth("(1 + (2 * (3 - (4 - (5 * (6 - (7 - (8 + 9))))))))", 159);
        dueWorth("(1 < (1 < (1 < (1 < (1 < (1 < (1 < (0 < 1))))))))", 0);
        dueWorth("((((((((0 < 1) = 1) = 1) = 1) = 1) = 1) = 1) = 1)", 1);
        dueWorth("B[B[B[B[B[B[B[B[2] + 2] + 2] + 2] + 2] + 2] + 2] + 2]", 0);
        dueWorth("-(-(-(-(5)))) + 1", 6);
        new Scene(check, "A[((((((((1))))))))] += --------5;").row('A', Why.LONG, 0, 0).done().isRow('A', Why.LONG, 0, 5);
        new Scene(check, "A[--------1] <> b;").name('b', 7).row('A', Why.INT, 0, 0).done().isRow('A', Why.INT, 0, 7);
    }

    private static void dueWorth(String e, long want) {
        dueWorth(e, 0, want);
    }

    /** What E adds to a long that is 0; B has the least, the most, 0; C has so many ITEMS. */
    private static void dueWorth(String e, int items, long want) {
        new Scene(check, "A[0] += " + e + ";").row('A', Why.LONG, 0).row('B', Why.LONG, LEAST, MOST, 0).row('C', Why.BYTE, new long[items])
            .done().isRow('A', Why.LONG, want);
    }

    /** Where an E is refused the STEP does nothing; ROWS A (of two ITEMS, 0 and 5) and B (of none) and NAME a (0) are there. */
    private static void dueRefused(String e, int why) {
        ready("let z = " + e + ";").refused(why).isNoName('z');
        ready("unlet d = " + e + ";").name('d', 0).refused(why).isName('d', 0);
        ready("b += " + e + ";").name('b', 3).refused(why).isName('b', 3);
        ready("new F int " + e + ";").refused(why).isNoRow('F');
        ready("if " + e + " { } else { } fi 0;").refused(why);
        ready("if 0 { } else { } fi " + e + ";").refusedBack(why);
        ready("from " + e + " { } loop { } until 1;").refused(why);
        ready("from 1 { } loop { } until " + e + ";").refusedBack(why);
    }

    private static void dueDone(String e) {
        ready("let z = " + e + ";").done();
    }

    private static Scene ready(String text) {
        return new Scene(check, text).name('a', 0).row('A', Why.INT, 0, 5).row('B', Why.INT);
    }

    /** Terms 2: "1 ABSENT (a NAME is not there)": also where its worth would not count. */
    private static void absent() {
        dueDone("a");
        dueRefused("c", Why.ABSENT);
        dueRefused("0 * c", Why.ABSENT);
        dueRefused("0 & c", Why.ABSENT);
        dueRefused("a + c - c", Why.ABSENT);
        dueRefused("-c", Why.ABSENT);
        dueRefused("(c)", Why.ABSENT);
        dueRefused("(a < c)", Why.ABSENT);
        dueRefused("(c = c)", Why.ABSENT);
        dueRefused("A[c]", Why.ABSENT);
    }

    /** Terms 2: "2 MISSING (a ROW ..)". */
    private static void missing() {
        dueDone("#A + #B + A[0]");
        for (char r = 'C'; r <= 'F'; r++) {
            ready("let z = #" + r + ";").refused(Why.MISSING);
            ready("let z = " + r + "[0];").refused(Why.MISSING);
        }
        dueRefused("#C", Why.MISSING);
        dueRefused("0 * #C", Why.MISSING);
        dueRefused("C[0]", Why.MISSING);
        dueRefused("A[C[0]]", Why.MISSING);
    }

    /** Terms 2: "2 MISSING (.. of R [ E ] behind E)". */
    private static void missingBehindE() {
        dueRefused("C[c]", Why.ABSENT);
        dueRefused("C[A[2]]", Why.OUTSIDE);
        dueRefused("C[1 / a]", Why.ZERO);
        dueRefused("C[-1]", Why.MISSING);
        dueRefused("C[D[c]]", Why.ABSENT);
        dueRefused("C[#D + c]", Why.MISSING);
    }

    /** Terms 2: "3 OUTSIDE (no such ITEM)". */
    private static void outside() {
        dueDone("A[0]");
        dueDone("A[1]");
        dueRefused("A[2]", Why.OUTSIDE);
        dueRefused("A[-1]", Why.OUTSIDE);
        dueRefused("A[65536 * 65536]", Why.OUTSIDE);
        dueRefused("A[-65536 * 65536]", Why.OUTSIDE);
        dueRefused("A[65536 * 65536 * 65536 * 32768]", Why.OUTSIDE);
        dueRefused("A[65536 * 65536 * 65536 * 32768 - 1]", Why.OUTSIDE);
        dueRefused("B[0]", Why.OUTSIDE);
        dueRefused("B[-1]", Why.OUTSIDE);
        dueRefused("A[A[1]]", Why.OUTSIDE);
        dueDone("A[A[0]]");
    }

    /** Terms 2: "4 ZERO (/ or % by 0)". */
    private static void zero() {
        for (String sign : new String[] {"/", "%"}) {
            dueDone("1 " + sign + " 1");
            dueDone("1 " + sign + " -1");
            dueDone("0 " + sign + " 5");
            dueRefused("1 " + sign + " 0", Why.ZERO);
            dueRefused("0 " + sign + " 0", Why.ZERO);
            dueRefused("1 " + sign + " a", Why.ZERO);
            dueRefused("1 " + sign + " A[0]", Why.ZERO);
            dueRefused("1 " + sign + " #B", Why.ZERO);
            dueRefused("1 " + sign + " (65536 * 65536 * 65536 * 65536)", Why.ZERO);
            dueDone("1 " + sign + " (65536 * 65536)");
        }
    }

    /** Terms 2: "From the left, REFUSED by the first of". */
    private static void fromTheLeft() {
        dueRefused("c + #C + A[2] + 1 / 0", Why.ABSENT);
        dueRefused("#C + A[2] + 1 / 0 + c", Why.MISSING);
        dueRefused("A[2] + 1 / 0 + c + #C", Why.OUTSIDE);
        dueRefused("1 / 0 + c + #C + A[2]", Why.ZERO);
        dueRefused("c / 0", Why.ABSENT);
        dueRefused("1 / (c - c)", Why.ABSENT);
        dueRefused("1 / 0 * c", Why.ZERO);
        dueRefused("1 * #C * c", Why.MISSING);
        dueRefused("(A[2] < c)", Why.OUTSIDE);
        dueRefused("(1 / 0 = c)", Why.ZERO);
        dueRefused("a + 2 * (1 % 0) + c", Why.ZERO);
    }
}

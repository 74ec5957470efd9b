/** Promises 14 to 21: wipe, give, has, value, row, item, height, piled; and what E comes to. */
final class StateTest {
    private static final Check check = new Check();
    private static final int BAD = ThereAndBack.BAD, NOT = ThereAndBack.NOT;

    public static void main(String[] args) {
        names();
        rows();
        stacks();
        wiping();
        sums();
        check.end();
    }

    private static void names() {
        ThereAndBack x = new ThereAndBack();
        check.due("give(0, 5)", x.give(0, 5), 0);
        check.due("give(0, 6)", x.give(0, 6), 1);
        check.due("give(25, least)", x.give(25, Integer.MIN_VALUE), 0);
        check.due("give(-1, 1)", x.give(-1, 1), BAD);
        check.due("give(26, 1)", x.give(26, 1), BAD);
        check.due("value(0)", x.value(0), 6);
        check.due("value(25)", x.value(25), Integer.MIN_VALUE);
        check.due("value(1)", x.value(1), 0);
        check.due("value(26)", x.value(26), 0);
        check.due("value(-1)", x.value(-1), 0);
        check.due("has(0)", x.has(0), 1);
        check.due("has(1)", x.has(1), 0);
        check.due("has(26)", x.has(26), BAD);
        check.due("has(-1)", x.has(-1), BAD);
        Check.read(x, 0, "unlet a = 6;");
        x.begin(0, false);
        check.due("go(false)", x.go(false), 1);
        check.due("value(0) of one that went", x.value(0), 0);
        check.due("has(0) of one that went", x.has(0), 0);
        check.due("give keeps the run", x.give(0, 1), 0);
        check.due("at(4)", x.at(4), 1);
    }

    private static void rows() {
        ThereAndBack x = Check.with("new A int 3; new F char 0; A[2] -= 4;");
        x.begin(0, false);
        x.run(3);
        check.due("row(0, 0)", x.row(0, 0), 0);
        check.due("row(0, 1)", x.row(0, 1), 3);
        check.due("row(5, 0)", x.row(5, 0), 4);
        check.due("row(5, 1)", x.row(5, 1), 0);
        check.due("row(1, 0)", x.row(1, 0), NOT);
        check.due("row(1, 2)", x.row(1, 2), BAD);
        check.due("row(0, -1)", x.row(0, -1), BAD);
        check.due("row(6, 0)", x.row(6, 0), BAD);
        check.due("row(-1, 0)", x.row(-1, 0), BAD);
        check.due("item(0, 2)", x.item(0, 2), -4);
        check.due("item(0, 0)", x.item(0, 0), 0);
        for (int i : new int[] {3, -1, 12, Integer.MAX_VALUE, Integer.MIN_VALUE}) check.due("item(0, " + i + ")", x.item(0, i), 0);
        check.due("item(1, 0)", x.item(1, 0), 0);
        check.due("item(6, 2)", x.item(6, 2), 0);
        check.due("item(-1, 2)", x.item(-1, 2), 0);
    }

    private static void stacks() {
        ThereAndBack x = Check.with("push a S; push b S; push c V;");
        for (int k = 0; k < 3; k++) x.give(k, k + 7);
        x.begin(0, false);
        x.run(3);
        check.due("height(0)", x.height(0), 2);
        check.due("height(1)", x.height(1), 0);
        check.due("height(3)", x.height(3), 1);
        check.due("height(4)", x.height(4), BAD);
        check.due("height(-1)", x.height(-1), BAD);
        check.due("piled(0, 0)", x.piled(0, 0), 7);
        check.due("piled(0, 1)", x.piled(0, 1), 8);
        check.due("piled(3, 0)", x.piled(3, 0), 9);
        check.due("piled(0, 2)", x.piled(0, 2), 0);
        check.due("piled(0, -1)", x.piled(0, -1), 0);
        check.due("piled(0, 99)", x.piled(0, 99), 0);
        check.due("piled(4, 0)", x.piled(4, 0), 0);
        check.due("piled(-1, 0)", x.piled(-1, 0), 0);
        check.due("what is pushed is 0, and there", x.has(0), 1);
        check.due("value(0)", x.value(0), 0);
    }

    private static void wiping() {
        ThereAndBack x = Check.with("a += 1;");
        long empty = x.digest();
        check.due("wipe() of nothing", x.wipe(), 0);
        x.give(0, 0);
        x.give(5, 5);
        x.lay(0, 1, 2);
        x.put(0, 0);
        x.put(0, 3);
        Check.read(x, 1, "push f T;");
        x.begin(1, false);
        x.run(1);
        check.due("height(1)", x.height(1), 1);
        check.due("wipe()", x.wipe(), 4);
        check.due("digest()", x.digest(), empty);
        check.due("at(0)", x.at(0), NOT);
        check.due("go(false)", x.go(false), NOT);
        check.due("height(1)", x.height(1), 0);
        check.due("texts stay", x.told(0, 0), 1);
        check.due("the bench stays", x.lift(0, 1), 0);
        check.due("the bench stays", x.put(0, 0), 2);
    }

    /** E by what it does to a long: a row of one is changed by it from 0. */
    private static void sums() {
        dueWorth("1 + 2 * 3 - 4", 3);
        dueWorth("10 - 3 - 2", 5);
        dueWorth("7 / 2 * 2", 6);
        dueWorth("-7 / 2", -3);
        dueWorth("-7 % 4", -3);
        dueWorth("7 % -4", 3);
        dueWorth("6 & 3 + 1", 3);
        dueWorth("1 + 6 & 3", 3);
        dueWorth("1 | 6 ^ 3", 4);
        dueWorth("5 ^ 1 + 1", 5);
        dueWorth("--5 - -(2)", 7);
        dueWorth("(1 < 2) + (2 < 1) * 10 + (2 = 2) * 100", 101);
        dueWorth("(-1 < 0)", 1);
        dueWorth("(2 < 2) + (2 = 3)", 0);
        dueWorth("-(-(-(-(5))))", 5);
        dueWorth("((((((((5))))))))", 5);
        dueWorth("B[B[B[B[B[B[B[B[0] - 65535] - 65535] - 65535] - 65535] - 65535] - 65535] - 65535]", 65535);
        dueWorth("#A + #B", 13);
        dueWorth("#B * 0", 0);
        dueWorth("999999999 * 999999999 * 999999999", 999999999L * 999999999L * 999999999L);
        dueWorth("a", Integer.MIN_VALUE);
        dueWorth("-a", 1L << 31);
        dueWorth("a * a * -2 / -1", Long.MIN_VALUE);
        dueWorth("a * a * -2 % -1", 0);
        dueWorth("a * a * 2 - 1", Long.MAX_VALUE);
        dueWorth("B[0] + B[B[1]]", 65535 + 65535);
    }

    private static void dueWorth(String e, long want) {
        ThereAndBack x = Check.with("A[0] += " + e + ";");
        x.give(0, Integer.MIN_VALUE);
        x.lay(0, 1, 1);
        x.lay(1, 4, 12);
        x.set(1, 4, 0, -1);
        x.put(0, 0);
        x.put(1, 1);
        x.begin(0, false);
        check.due("go(false) of " + e, x.go(false), 1);
        check.due(e, x.item(0, 0), want);
    }
}

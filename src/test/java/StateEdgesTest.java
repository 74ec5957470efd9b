/** The edges of promises 14 to 21. One method a sentence, which its remark names. */
final class StateEdgesTest {
    private static final Check check = new Check();
    private static final int BAD = ThereAndBack.BAD, NOT = ThereAndBack.NOT;

    public static void main(String[] args) {
        wiped();
        wipedCounts();
        given();
        giveRefused();
        had();
        values();
        rowFacts();
        rowRefused();
        items();
        itemsOfNone();
        heights();
        heightRefused();
        piledInts();
        piledOfNone();
        check.end();
    }

    /** Promise 14: "Nothing is in THE STATE, and no RUN". */
    private static void wiped() {
        Scene scene = new Scene(check, "push a S; call 9;").name('a', 4).name('z', 1).row('A', Why.INT, 1).row('F', Why.CHAR);
        ThereAndBack x = scene.x;
        long empty = new ThereAndBack().digest();
        x.begin(0, false);
        x.run(2);
        check.due("at(5)", x.at(5), Why.NONE);
        check.due("wipe()", x.wipe(), 4);
        check.due("digest()", x.digest(), empty);
        scene.isNoName('a').isNoName('z').isNoRow('A').isNoRow('F').isStack('S');
        check.due("at(4)", x.at(4), NOT);
        check.due("at(5) stays", x.at(5), Why.NONE);
        check.due("go(false)", x.go(false), NOT);
        check.due("told(0, 0): TEXTS stay", x.told(0, 0), 2);
        check.due("put(7, 0): the bench stays", x.put(7, 0), 0);
        check.due("wipe() again", x.wipe(), 1);
        check.due("wipe() of nothing", x.wipe(), 0);
        check.due("begin(0, false)", x.begin(0, false), 2);
        check.due("wipe() of a RUN alone", x.wipe(), 0);
        check.due("at(0)", x.at(0), NOT);
    }

    /** Promise 14: "how many NAMES and ROWS were there": none, one, all; not the ints of STACKS. */
    private static void wipedCounts() {
        ThereAndBack x = new ThereAndBack();
        for (int k = 0; k < 26; k++) x.give(k, 0);
        check.due("wipe() of all NAMES", x.wipe(), 26);
        x.lay(0, 0, 0);
        for (int r = 0; r < 6; r++) x.put(0, r);
        check.due("wipe() of all ROWS", x.wipe(), 6);
        for (int k = 0; k < 26; k++) x.give(k, 0);
        for (int r = 0; r < 6; r++) x.put(0, r);
        check.due("wipe() of all", x.wipe(), 32);
        Check.read(x, 0, "let a = 1; push a S; unlet a = 0;");
        x.begin(0, false);
        check.due("run(3)", x.run(3), 3);
        check.due("wipe() of a STACK's int", x.wipe(), 0);
        check.due("height(0)", x.height(0), 0);
    }

    /** Promise 15: "NAME k is there and is v: 1, if it was there, else 0." */
    private static void given() {
        ThereAndBack x = new ThereAndBack();
        for (int k : new int[] {0, 1, 24, 25}) {
            check.due("give(" + k + ", 0)", x.give(k, 0), 0);
            check.due("has(" + k + ")", x.has(k), 1);
            check.due("give(" + k + ", least)", x.give(k, Integer.MIN_VALUE), 1);
            check.due("value(" + k + ")", x.value(k), Integer.MIN_VALUE);
            check.due("give(" + k + ", most)", x.give(k, Integer.MAX_VALUE), 1);
            check.due("value(" + k + ")", x.value(k), Integer.MAX_VALUE);
        }
        x.wipe();
        check.due("give(0, 1) behind wipe()", x.give(0, 1), 0);
    }

    /** Promise 15: "BAD." */
    private static void giveRefused() {
        ThereAndBack x = new ThereAndBack();
        check.dueEach("give(k, 5)", k -> x.give(k, 5), BAD, Check.outside(25));
        check.due("wipe(): nothing was given", x.wipe(), 0);
        check.due("give(25, 5)", x.give(25, 5), 0);
    }

    /** Promise 16: "Whether NAME k is there: 1, 0. BAD." */
    private static void had() {
        ThereAndBack x = Check.with("unlet a = 0;");
        check.dueEach("has", x::has, 0, 0, 25);
        x.give(0, 0);
        x.give(25, 0);
        check.dueEach("has", x::has, 1, 0, 25);
        check.dueEach("has", x::has, 0, 1, 24);
        check.dueEach("has", x::has, BAD, Check.outside(25));
        x.begin(0, false);
        x.go(false);
        check.due("has(0) behind unlet", x.has(0), 0);
        x.go(true);
        check.due("has(0) back again", x.has(0), 1);
    }

    /** Promise 17: "What NAME k is; 0 where it is not there." */
    private static void values() {
        ThereAndBack x = Check.with("unlet a = 7;");
        check.dueEach("value of none there", x::value, 0, 0, 1, 25);
        x.give(0, 7);
        x.give(25, -7);
        check.due("value(0)", x.value(0), 7);
        check.due("value(25)", x.value(25), -7);
        check.dueEach("value of none there", x::value, 0, 1, 24);
        check.dueEach("value of what is no NAME", x::value, 0, Check.outside(25));
        x.begin(0, false);
        x.go(false);
        check.due("value(0) behind unlet", x.value(0), 0);
    }

    /** Promise 18: "Of a ROW: 0 its KIND, 1 how many ITEMS." */
    private static void rowFacts() {
        ThereAndBack x = new ThereAndBack();
        for (int kind = 0; kind <= 4; kind++) {
            for (int n : new int[] {0, 1, 12}) {
                x.lay(0, kind, n);
                x.put(0, 5);
                check.due("row(5, 0)", x.row(5, 0), kind);
                check.due("row(5, 1)", x.row(5, 1), n);
            }
        }
    }

    /** Promise 18: "BAD; NOT: it is not there." */
    private static void rowRefused() {
        ThereAndBack x = new ThereAndBack();
        x.lay(0, 4, 3);
        x.put(0, 0);
        for (int what = 0; what <= 1; what++) {
            int asked = what;
            check.dueEach("row(r, " + what + ")", r -> x.row(r, asked), BAD, Check.outside(5));
            check.dueEach("row(r, " + what + ")", r -> x.row(r, asked), NOT, 1, 5);
        }
        check.dueEach("row(0, what)", what -> x.row(0, what), BAD, Check.outside(1));
        check.dueEach("row(5, what), BAD ahead of NOT", what -> x.row(5, what), BAD, Check.outside(1));
        check.due("row(0, 0)", x.row(0, 0), 4);
        x.wipe();
        check.due("row(0, 0) behind wipe()", x.row(0, 0), NOT);
    }

    /** Promise 19: "ITEM i of a ROW". */
    private static void items() {
        for (int kind = 0; kind <= 4; kind++) {
            Scene scene = new Scene(check, "").row('F', kind, Why.LEAST[kind], 1, Why.MOST[kind]);
            check.due("item(5, 0)", scene.x.item(5, 0), Why.LEAST[kind]);
            check.due("item(5, 1)", scene.x.item(5, 1), 1);
            check.due("item(5, 2)", scene.x.item(5, 2), Why.MOST[kind]);
        }
        Scene twelve = new Scene(check, "").row('A', Why.BYTE, 1, 2, 3, 4, 5, 6, 7, 8, 9, 10, 11, 12);
        for (int i = 0; i < 12; i++) check.due("item(0, " + i + ")", twelve.x.item(0, i), i + 1);
        check.due("item(0, 12)", twelve.x.item(0, 12), 0);
    }

    /** Promise 19: "0 of none such." */
    private static void itemsOfNone() {
        ThereAndBack x = new Scene(check, "").row('A', Why.INT, 7, 7, 7).row('B', Why.INT).x;
        check.dueEach("item(0, i)", i -> x.item(0, i), 7, 0, 1, 2);
        check.dueEach("item(0, i)", i -> x.item(0, i), 0, Check.outside(2));
        check.dueEach("item(0, i)", i -> x.item(0, i), 0, 11, 12);
        check.dueEach("item(1, i) of a ROW of none", i -> x.item(1, i), 0, -1, 0, 1);
        check.dueEach("item(r, 0)", r -> x.item(r, 0), 0, Check.outside(5));
        check.dueEach("item(r, 0)", r -> x.item(r, 0), 0, 2, 5);
    }

    /** Promise 20: "How many ints a STACK has": none, one, thirty. */
    private static void heights() {
        ThereAndBack x = Check.with("push a V;".repeat(31));
        x.give(0, 1);
        x.begin(0, false);
        for (int n = 0; n < 30; n++) {
            check.due("height(3)", x.height(3), n);
            check.due("go(false)", x.go(false), 1);
        }
        check.due("height(3)", x.height(3), 30);
        check.due("go(false)", x.go(false), -20 - Why.FULL);
        check.due("height(3)", x.height(3), 30);
        check.dueEach("height of the others", x::height, 0, 0, 1, 2);
        check.due("run(-300)", x.run(-300), 30);
        check.due("height(3)", x.height(3), 0);
    }

    /** Promise 20: "BAD." */
    private static void heightRefused() {
        ThereAndBack x = new ThereAndBack();
        check.dueEach("height", x::height, 0, 0, 3);
        check.dueEach("height", x::height, BAD, Check.outside(3));
    }

    /** Promise 21: "Int i of a STACK from below". */
    private static void piledInts() {
        StringBuilder text = new StringBuilder();
        for (char n = 'a'; n <= 'z'; n++) text.append("push ").append(n).append(" S;");
        ThereAndBack x = Check.with(text + "push a S;push b S;push c S;push d S;");
        for (int k = 0; k < 26; k++) x.give(k, k + 1);
        x.begin(0, false);
        x.run(26);
        for (int k = 0; k < 4; k++) x.give(k, k + 27);
        check.due("run(4)", x.run(4), 4);
        for (int i = 0; i < 30; i++) check.due("piled(0, " + i + ")", x.piled(0, i), i + 1);
        check.due("piled(0, 30)", x.piled(0, 30), 0);
    }

    /** Promise 21: "0 of none such." */
    private static void piledOfNone() {
        ThereAndBack x = Check.with("push a S;push b S;");
        x.give(0, 8);
        x.give(1, 9);
        x.begin(0, false);
        x.run(2);
        check.due("piled(0, 0)", x.piled(0, 0), 8);
        check.due("piled(0, 1)", x.piled(0, 1), 9);
        check.dueEach("piled(0, i)", i -> x.piled(0, i), 0, Check.outside(1));
        check.dueEach("piled(0, i)", i -> x.piled(0, i), 0, 29, 30);
        check.dueEach("piled(s, 0)", s -> x.piled(s, 0), 0, Check.outside(3));
        check.dueEach("piled(s, 0)", s -> x.piled(s, 0), 0, 1, 3);
        x.go(true);
        check.due("piled(0, 1) of what went", x.piled(0, 1), 0);
        x.wipe();
        check.due("piled(0, 0) behind wipe()", x.piled(0, 0), 0);
    }
}

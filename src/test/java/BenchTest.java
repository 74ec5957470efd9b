/** Promises 29 to 36: lay, lift, put, set, get, failed, copy, alike. */
final class BenchTest {
    private static final Check check = new Check();
    private static final int BAD = ThereAndBack.BAD, NULL = ThereAndBack.NULL, CAST = ThereAndBack.CAST;
    private static final int INDEX = ThereAndBack.INDEX, STORE = ThereAndBack.STORE, SIZE = ThereAndBack.SIZE;
    private static final int INT = 0, LONG = 1, SHORT = 2, BYTE = 3, CHAR = 4;

    public static void main(String[] args) {
        laying();
        liftingAndPutting();
        settingAndGetting();
        copying();
        manyRows();
        check.end();
    }

    private static void laying() {
        ThereAndBack x = new ThereAndBack();
        check.due("lay(0, int, 0)", x.lay(0, INT, 0), 0);
        check.due("lay(7, char, 12)", x.lay(7, CHAR, 12), 12);
        check.due("lay(7, char, 13)", x.lay(7, CHAR, 13), BAD);
        check.due("lay(8, int, 1)", x.lay(8, INT, 1), BAD);
        check.due("lay(-1, int, 1)", x.lay(-1, INT, 1), BAD);
        check.due("lay(0, 5, 1)", x.lay(0, 5, 1), BAD);
        check.due("lay(0, -1, 1)", x.lay(0, -1, 1), BAD);
        check.due("lay(0, int, -1)", x.lay(0, INT, -1), SIZE);
        check.due("lay(0, int, least)", x.lay(0, INT, Integer.MIN_VALUE), SIZE);
        check.due("BAD ahead of SIZE", x.lay(8, INT, -1), BAD);
        check.due("nothing was changed", x.put(7, 0), 12);
        check.due("nor here", x.put(0, 1), 0);
        check.due("a row without items", x.row(1, 1), 0);
        x.set(7, CHAR, 3, 9);
        check.due("lay anew", x.lay(7, CHAR, 12), 12);
        check.due("all 0", x.get(7, CHAR, 3), 0);
        check.due("the row goes on", x.item(0, 3), 9);
    }

    private static void liftingAndPutting() {
        ThereAndBack x = new ThereAndBack();
        check.due("put(0, 0)", x.put(0, 0), NULL);
        check.due("put(8, 0)", x.put(8, 0), BAD);
        check.due("put(0, 6)", x.put(0, 6), BAD);
        check.due("put(0, -1)", x.put(0, -1), BAD);
        x.lay(0, SHORT, 3);
        check.due("put(0, 5)", x.put(0, 5), 3);
        check.due("row(5, 0)", x.row(5, 0), SHORT);
        check.due("row(5, 1)", x.row(5, 1), 3);
        check.due("put(0, 4): the same row", x.put(0, 4), 3);
        x.set(0, SHORT, 1, -7);
        check.due("item(5, 1)", x.item(5, 1), -7);
        check.due("item(4, 1)", x.item(4, 1), -7);
        check.due("lift(5, 1)", x.lift(5, 1), 1);
        check.due("lift(4, 2)", x.lift(4, 2), 1);
        check.due("alike(0, 1)", x.alike(0, 1), 1);
        check.due("alike(1, 2)", x.alike(1, 2), 1);
        check.due("alike(0, 3)", x.alike(0, 3), 0);
        check.due("alike(3, 4): nothing both", x.alike(3, 4), 1);
        x.lay(3, SHORT, 3);
        x.set(3, SHORT, 1, -7);
        check.due("alike(0, 3): only equal", x.alike(0, 3), 0);
        check.due("alike(0, 8)", x.alike(0, 8), BAD);
        check.due("alike(-1, 0)", x.alike(-1, 0), BAD);
        check.due("lift of none", x.lift(0, 1), 0);
        check.due("the place holds nothing", x.put(1, 0), NULL);
        check.due("lift(6, 0)", x.lift(6, 0), BAD);
        check.due("lift(-1, 0)", x.lift(-1, 0), BAD);
        check.due("lift(5, 8)", x.lift(5, 8), BAD);
        check.due("lift(5, -1)", x.lift(5, -1), BAD);
        check.due("wipe()", x.wipe(), 2);
        check.due("the bench stays", x.get(0, SHORT, 1), -7);

        // A run changes what lies on the bench, and a row that ends goes on lying there.
        Check.read(x, 0, "new A int 2; A[1] += 5; A[1] -= 5; end A int 2;");
        x.begin(0, false);
        x.run(2);
        x.lift(0, 5);
        check.due("get(5, int, 1)", x.get(5, INT, 1), 5);
        x.run(2);
        check.due("row(0, 0)", x.row(0, 0), ThereAndBack.NOT);
        check.due("put(5, 1)", x.put(5, 1), 2);
        x.run(-1);
        x.lift(0, 6);
        check.due("a new one, gone back over the end", x.alike(5, 6), 0);
    }

    private static void settingAndGetting() {
        ThereAndBack x = new ThereAndBack();
        for (int kind = 0; kind < 5; kind++) x.lay(kind, kind, 2);
        long v = 0x123456789ABCDEF0L;
        dueSet(x, INT, v, (int) v);
        dueSet(x, LONG, v, v);
        dueSet(x, SHORT, v, (short) v);
        dueSet(x, BYTE, v, (byte) v);
        dueSet(x, CHAR, v, (char) v);
        dueSet(x, CHAR, -1, 65535);
        dueSet(x, BYTE, 255, -1);
        dueSet(x, SHORT, 32768, -32768);
        dueSet(x, INT, 1L << 31, Integer.MIN_VALUE);
        dueSet(x, LONG, Long.MIN_VALUE, Long.MIN_VALUE);

        dueGone(x, 8, INT, 0, BAD);
        dueGone(x, -1, INT, 0, BAD);
        dueGone(x, 0, 5, 0, BAD);
        dueGone(x, 7, -1, 0, BAD);
        dueGone(x, 7, INT, 0, NULL);
        dueGone(x, 0, LONG, 0, CAST);
        dueGone(x, 2, CHAR, 9, CAST);
        dueGone(x, 0, INT, 2, INDEX);
        dueGone(x, 0, INT, -1, INDEX);
        dueGone(x, 0, INT, Integer.MAX_VALUE, INDEX);
        dueGone(x, 0, INT, Integer.MIN_VALUE, INDEX);
        check.due("a get that goes well", x.get(0, INT, 0), 0);
        check.due("failed() is 0 again", x.failed(), 0);
        x.set(0, LONG, 0, 1);
        check.due("failed() tells of get() alone", x.failed(), 0);
    }

    private static void dueSet(ThereAndBack x, int kind, long v, long want) {
        check.due("set(" + kind + ", " + kind + ", 1, " + v + ")", x.set(kind, kind, 1, v), 1);
        check.due("get(" + kind + ", " + kind + ", 1)", x.get(kind, kind, 1), want);
        check.due("get of its neighbour", x.get(kind, kind, 0), 0);
        check.due("failed()", x.failed(), 0);
    }

    private static void dueGone(ThereAndBack x, int place, int kind, int i, int why) {
        String arguments = "(" + place + ", " + kind + ", " + i + ")";
        check.due("set" + arguments, x.set(place, kind, i, 77), why);
        check.due("get" + arguments, x.get(place, kind, i), 0);
        check.due("failed() behind get" + arguments, x.failed(), why);
    }

    private static void copying() {
        ThereAndBack x = new ThereAndBack();
        x.lay(0, INT, 5);
        x.lay(1, INT, 3);
        x.lay(2, LONG, 5);
        for (int i = 0; i < 5; i++) x.set(0, INT, i, i + 1);
        check.due("copy(0, 1, 1, 0, 3)", x.copy(0, 1, 1, 0, 3), 3);
        dueItems(x, 1, 2, 3, 4);
        check.due("onto itself, up", x.copy(0, 0, 0, 1, 4), 4);
        dueItems(x, 0, 1, 1, 2, 3, 4);
        check.due("onto itself, down", x.copy(0, 2, 0, 0, 3), 3);
        dueItems(x, 0, 2, 3, 4, 3, 4);
        check.due("none, at the very end", x.copy(0, 5, 1, 3, 0), 0);
        check.due("one beyond", x.copy(0, 5, 1, 0, 1), INDEX);
        check.due("from beyond, none", x.copy(0, 6, 1, 0, 0), INDEX);
        check.due("to beyond, none", x.copy(0, 0, 1, 4, 0), INDEX);
        check.due("to beyond", x.copy(0, 0, 1, 1, 3), INDEX);
        check.due("n below 0", x.copy(0, 0, 1, 0, -1), INDEX);
        check.due("i below 0", x.copy(0, -1, 1, 0, 1), INDEX);
        check.due("j below 0", x.copy(0, 0, 1, -1, 1), INDEX);
        check.due("sums that would go round", x.copy(0, Integer.MAX_VALUE, 1, 0, Integer.MAX_VALUE), INDEX);
        check.due("sums that would go round there", x.copy(0, 0, 1, Integer.MAX_VALUE, 1), INDEX);
        check.due("unlike kinds", x.copy(0, 0, 2, 0, 1), STORE);
        check.due("STORE ahead of INDEX", x.copy(0, -1, 2, 0, 99), STORE);
        check.due("nothing there", x.copy(0, 0, 7, 0, 1), NULL);
        check.due("nothing here", x.copy(7, 0, 0, 0, 1), NULL);
        check.due("copy(8, ..)", x.copy(8, 0, 7, 0, 1), BAD);
        check.due("copy(.., -1, ..)", x.copy(7, 0, -1, 0, 1), BAD);
        dueItems(x, 0, 2, 3, 4, 3, 4);
        dueItems(x, 1, 2, 3, 4);
        // One row at two places.
        x.put(0, 0);
        x.lift(0, 6);
        check.due("from a row to itself by another place", x.copy(0, 0, 6, 1, 4), 4);
        dueItems(x, 0, 2, 2, 3, 4, 3);
    }

    private static void dueItems(ThereAndBack x, int place, int... want) {
        for (int i = 0; i < want.length; i++) check.due("get(" + place + ", int, " + i + ")", x.get(place, INT, i), want[i]);
    }

    /** Every holder has a row of its own, again and again. */
    private static void manyRows() {
        ThereAndBack x = new ThereAndBack();
        for (int n = 0; n < 20; n++) {
            x.lay(0, INT, 2);
            check.due("all 0, anew", x.get(0, INT, 0) + x.get(0, INT, 1), 0);
            x.set(0, INT, 0, 5);
            x.set(0, INT, 1, 6);
        }
        for (int n = 0; n < 3; n++) {
            for (int r = 0; r < 6; r++) {
                x.lay(0, LONG, 12);
                x.set(0, LONG, 11, 100 * n + r);
                x.put(0, r);
            }
            for (int place = 0; place < 8; place++) {
                x.lay(place, LONG, 12);
                x.set(place, LONG, 11, 100 * n + 10 + place);
            }
            for (int r = 0; r < 6; r++) check.due("item(" + r + ", 11)", x.item(r, 11), 100 * n + r);
            for (int place = 0; place < 8; place++) {
                check.due("get(" + place + ", long, 11)", x.get(place, LONG, 11), 100 * n + 10 + place);
                check.due("get(" + place + ", long, 0)", x.get(place, LONG, 0), 0);
            }
        }
    }
}

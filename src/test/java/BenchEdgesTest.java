/** The edges of promises 29 to 36. One method a sentence, which its remark names. */
final class BenchEdgesTest {
    private static final Check check = new Check();
    private static final int BAD = ThereAndBack.BAD, NULL = ThereAndBack.NULL, CAST = ThereAndBack.CAST;
    private static final int INDEX = ThereAndBack.INDEX, STORE = ThereAndBack.STORE, SIZE = ThereAndBack.SIZE;
    private static final int LEAST = Integer.MIN_VALUE, MOST = Integer.MAX_VALUE;

    public static void main(String[] args) {
        rowsForAll();
        lays();
        laysAnew();
        layRefused();
        lifts();
        liftsNothing();
        liftRefused();
        puts();
        putRefused();
        sets();
        setRefused();
        setIndex();
        gets();
        getRefused();
        failedOfTheLatest();
        copies();
        copiesAsIfTakenAhead();
        copyIndex();
        copyRefused();
        alikes();
        alikeRefused();
        check.end();
    }

    /** "places 0 .. 7 hold a row of ITEMS, or nothing": eight places and six ROWS, each with one of its own, laid anew. */
    private static void rowsForAll() {
        ThereAndBack x = new ThereAndBack();
        for (int r = 0; r < 6; r++) {
            x.lay(0, Why.INT, 1);
            x.set(0, Why.INT, 0, 100 + r);
            x.put(0, r);
        }
        for (int round = 0; round < 3; round++) {
            for (int place = 0; place < 8; place++) {
                check.due("lay(" + place + ", 0, 1)", x.lay(place, Why.INT, 1), 1);
                check.due("get(" + place + ", 0, 0)", x.get(place, Why.INT, 0), 0);
                x.set(place, Why.INT, 0, 200 + 10 * round + place);
            }
            for (int r = 0; r < 6; r++) check.due("item(" + r + ", 0)", x.item(r, 0), 100 + r);
            for (int place = 0; place < 8; place++) dueItems(x, place, Why.INT, 200 + 10 * round + place);
        }
    }

    /** Promise 29: "A place holds a new row of ITEMS, all 0: n." */
    private static void lays() {
        ThereAndBack x = new ThereAndBack();
        for (int kind = 0; kind <= 4; kind++) {
            for (int n : new int[] {0, 1, 11, 12}) {
                for (int place : new int[] {0, 7}) {
                    check.due("lay(" + place + ", " + kind + ", " + n + ")", x.lay(place, kind, n), n);
                    dueItems(x, place, kind, new long[n]);
                }
                check.due("alike(0, 7)", x.alike(0, 7), 0);
            }
        }
    }

    /** So many ITEMS of that KIND, and none behind. */
    private static void dueItems(ThereAndBack x, int place, int kind, long... want) {
        for (int i = 0; i < want.length; i++) check.due("get(" + place + ", " + kind + ", " + i + ")", x.get(place, kind, i), want[i]);
        check.due("get behind the last", x.get(place, kind, want.length), 0);
        check.due("failed()", x.failed(), INDEX);
    }

    /** Promise 29: "a new row": what the place held goes on as a ROW, and is not changed. */
    private static void laysAnew() {
        ThereAndBack x = new ThereAndBack();
        for (int n = 0; n < 40; n++) {
            check.due("lay(3, 0, 2)", x.lay(3, Why.INT, 2), 2);
            dueItems(x, 3, Why.INT, 0, 0);
            x.set(3, Why.INT, 0, n + 1);
            x.put(3, n % 6);
            if (n > 0) check.due("item of the one before", x.item((n - 1) % 6, 0), n);
        }
        x.lay(3, Why.CHAR, 0);
        check.due("item(3, 0)", x.item(39 % 6, 0), 40);
    }

    /** Promise 29: "BAD: place, KIND, n above 12; SIZE: n below 0." */
    private static void layRefused() {
        ThereAndBack x = held(Why.LONG, 5, 6);
        check.dueEach("lay(place, 1, 1)", place -> x.lay(place, 1, 1), BAD, Check.outside(7));
        check.dueEach("lay(0, kind, 1)", kind -> x.lay(0, kind, 1), BAD, Check.outside(4));
        check.dueEach("lay(0, 1, n)", n -> x.lay(0, 1, n), BAD, 13, 14, MOST);
        check.dueEach("lay(0, 1, n)", n -> x.lay(0, 1, n), SIZE, -1, -2, LEAST);
        check.dueEach("lay(place, 1, -1), BAD ahead of SIZE", place -> x.lay(place, 1, -1), BAD, Check.outside(7));
        check.dueEach("lay(0, kind, -1), BAD ahead of SIZE", kind -> x.lay(0, kind, -1), BAD, Check.outside(4));
        dueItems(x, 0, Why.LONG, 5, 6);
        check.due("alike(1, 7): nothing came", x.alike(1, 7), 1);
        check.due("lay(0, 1, 12)", x.lay(0, 1, 12), 12);
        check.due("lay(0, 1, 0)", x.lay(0, 1, 0), 0);
    }

    /** A new object with a row on place 0 of its bench. */
    private static ThereAndBack held(int kind, long... items) {
        ThereAndBack x = new ThereAndBack();
        x.lay(0, kind, items.length);
        for (int i = 0; i < items.length; i++) x.set(0, kind, i, items[i]);
        return x;
    }

    /** Promise 30: "A place holds that very row of ITEMS that a ROW is .. 1". */
    private static void lifts() {
        ThereAndBack x = held(Why.INT, 1, 2);
        x.put(0, 0);
        x.put(0, 5);
        for (int place = 1; place <= 7; place++) check.due("lift(5, " + place + ")", x.lift(5, place), 1);
        for (int place = 1; place <= 7; place++) check.due("alike(0, " + place + ")", x.alike(0, place), 1);
        x.set(7, Why.INT, 1, 9);
        check.due("item(0, 1)", x.item(0, 1), 9);
        check.due("item(5, 1)", x.item(5, 1), 9);
        dueItems(x, 3, Why.INT, 1, 9);
        x.wipe();
        dueItems(x, 7, Why.INT, 1, 9);
    }

    /** Promise 30: "(nothing, if that is not there): 1, 0." */
    private static void liftsNothing() {
        ThereAndBack x = held(Why.INT, 1, 2);
        check.due("lift(5, 0)", x.lift(5, 0), 0);
        check.due("get(0, 0, 0)", x.get(0, 0, 0), 0);
        check.due("failed()", x.failed(), NULL);
        check.due("alike(0, 7)", x.alike(0, 7), 1);
        check.due("put(0, 5)", x.put(0, 5), NULL);
        check.due("lift(5, 7) to a place of nothing", x.lift(5, 7), 0);
        x.lay(0, Why.INT, 0);
        x.put(0, 5);
        check.due("lift(5, 7) of a ROW of none", x.lift(5, 7), 1);
        check.due("alike(0, 7)", x.alike(0, 7), 1);
    }

    /** Promise 30: "BAD." */
    private static void liftRefused() {
        ThereAndBack x = held(Why.INT, 1, 2);
        check.dueEach("lift(r, 0)", r -> x.lift(r, 0), BAD, Check.outside(5));
        check.dueEach("lift(0, place)", place -> x.lift(0, place), BAD, Check.outside(7));
        dueItems(x, 0, Why.INT, 1, 2);
    }

    /** Promise 31: "A ROW is (from now on) that very row of ITEMS that a place holds: how many ITEMS." */
    private static void puts() {
        for (int n : new int[] {0, 1, 11, 12}) {
            ThereAndBack x = new ThereAndBack();
            x.lay(7, Why.BYTE, n);
            check.due("put(7, 0)", x.put(7, 0), n);
            check.due("put(7, 5)", x.put(7, 5), n);
            check.due("row(5, 1)", x.row(5, 1), n);
            check.due("row(5, 0)", x.row(5, 0), Why.BYTE);
            x.lay(6, Why.CHAR, 1);
            check.due("put(6, 5) over it", x.put(6, 5), 1);
            check.due("row(5, 0)", x.row(5, 0), Why.CHAR);
            check.due("row(0, 0)", x.row(0, 0), Why.BYTE);
            x.lift(0, 1);
            check.due("alike(1, 7)", x.alike(1, 7), 1);
        }
    }

    /** Promise 31: "BAD; NULL: it holds nothing." */
    private static void putRefused() {
        ThereAndBack x = held(Why.INT, 1, 2);
        x.put(0, 0);
        check.dueEach("put(place, 0)", place -> x.put(place, 0), BAD, Check.outside(7));
        check.dueEach("put(0, r)", r -> x.put(0, r), BAD, Check.outside(5));
        check.dueEach("put(1, r), BAD ahead of NULL", r -> x.put(1, r), BAD, Check.outside(5));
        check.dueEach("put(place, 0)", place -> x.put(place, 0), NULL, 1, 7);
        check.due("item(0, 1): it stays", x.item(0, 1), 2);
        check.due("row(1, 0)", x.row(1, 0), ThereAndBack.NOT);
    }

    /** Promise 32: "ITEM i of a place, its row taken as one of a KIND, becomes v, cut to that: 1." */
    private static void sets() {
        for (int kind = 0; kind <= 4; kind++) {
            long least = Why.LEAST[kind];
            long most = Why.MOST[kind];
            dueSet(kind, least, least);
            dueSet(kind, least - 1, most);
            dueSet(kind, most, most);
            dueSet(kind, most + 1, least);
            dueSet(kind, 0, 0);
            dueSet(kind, -1, kind == Why.CHAR ? 65535 : -1);
            dueSet(kind, 1L << Math.min(Why.BITS[kind], 63), kind == Why.LONG ? Long.MIN_VALUE : 0);
            dueSet(kind, Long.MIN_VALUE, kind == Why.LONG ? Long.MIN_VALUE : 0);
        }
    }

    private static void dueSet(int kind, long v, long want) {
        ThereAndBack x = new ThereAndBack();
        x.lay(7, kind, 3);
        check.due("set(7, " + kind + ", 1, " + v + ")", x.set(7, kind, 1, v), 1);
        dueItems(x, 7, kind, 0, want, 0);
    }

    /** Promise 32: "BAD; NULL; CAST: it is of another KIND; INDEX." */
    private static void setRefused() {
        for (int kind = 0; kind <= 4; kind++) {
            int own = kind;
            ThereAndBack x = held(kind, 1, 2);
            check.dueEach("set(place, ..)", place -> x.set(place, own, 0, 9), BAD, Check.outside(7));
            check.dueEach("set(0, kind, ..)", other -> x.set(0, other, 0, 9), BAD, Check.outside(4));
            check.dueEach("set(1, kind, ..), BAD ahead of NULL", other -> x.set(1, other, 0, 9), BAD, Check.outside(4));
            check.dueEach("set(place, ..)", place -> x.set(place, own, 0, 9), NULL, 1, 7);
            check.dueEach("set(1, .., i, ..), NULL ahead of INDEX", i -> x.set(1, own, i, 9), NULL, Check.outside(1));
            for (int other = 0; other <= 4; other++) {
                int asked = other;
                int want = other == kind ? INDEX : CAST;
                check.dueEach("set(0, .., i, ..), CAST ahead of INDEX", i -> x.set(0, asked, i, 9), want, Check.outside(1));
                if (other != kind) check.due("set(0, " + other + ", 0, 9)", x.set(0, other, 0, 9), CAST);
            }
            dueItems(x, 0, kind, 1, 2);
        }
    }

    /** Promise 32: "INDEX": of rows of none, one, twelve. */
    private static void setIndex() {
        for (int n : new int[] {0, 1, 11, 12}) {
            ThereAndBack x = new ThereAndBack();
            x.lay(0, Why.SHORT, n);
            check.dueEach("set(0, 2, i, 3) of " + n, i -> x.set(0, Why.SHORT, i, 3), INDEX, Check.outside(n - 1));
            if (n > 0) check.due("set(0, 2, last, 3) of " + n, x.set(0, Why.SHORT, n - 1, 3), 1);
            if (n > 0) check.due("get(0, 2, last) of " + n, x.get(0, Why.SHORT, n - 1), 3);
        }
    }

    /** Promise 33: "ITEM i of a place, its row taken as one of a KIND; 0 where failed() tells." */
    private static void gets() {
        for (int kind = 0; kind <= 4; kind++) {
            ThereAndBack x = held(kind, Why.LEAST[kind], 0, Why.MOST[kind]);
            check.due("get(0, .., 0)", x.get(0, kind, 0), Why.LEAST[kind]);
            check.due("failed()", x.failed(), 0);
            check.due("get(0, .., 1), 0 by itself", x.get(0, kind, 1), 0);
            check.due("failed()", x.failed(), 0);
            check.due("get(0, .., 2)", x.get(0, kind, 2), Why.MOST[kind]);
            check.due("failed()", x.failed(), 0);
            check.due("get(0, .., 3)", x.get(0, kind, 3), 0);
            check.due("failed()", x.failed(), INDEX);
        }
    }

    /** Promise 33: "BAD; NULL; CAST; INDEX." */
    private static void getRefused() {
        ThereAndBack x = held(Why.SHORT, 7, 7);
        for (int place : Check.outside(7)) dueFailed(x, place, Why.SHORT, 0, BAD);
        for (int kind : Check.outside(4)) dueFailed(x, 0, kind, 0, BAD);
        for (int kind : Check.outside(4)) dueFailed(x, 1, kind, 0, BAD);
        for (int place : new int[] {1, 7}) dueFailed(x, place, Why.SHORT, 0, NULL);
        for (int i : Check.outside(1)) dueFailed(x, 1, Why.SHORT, i, NULL);
        for (int kind : new int[] {0, 1, 3, 4}) dueFailed(x, 0, kind, 0, CAST);
        for (int i : Check.outside(1)) dueFailed(x, 0, Why.CHAR, i, CAST);
        for (int i : Check.outside(1)) dueFailed(x, 0, Why.SHORT, i, INDEX);
        dueItems(x, 0, Why.SHORT, 7, 7);
    }

    private static void dueFailed(ThereAndBack x, int place, int kind, int i, int why) {
        check.due("get(" + place + ", " + kind + ", " + i + ")", x.get(place, kind, i), 0);
        check.due("failed()", x.failed(), why);
        check.due("failed() again", x.failed(), why);
    }

    /** Promise 34: "Why the latest get() told 0: BAD, NULL, CAST, INDEX; 0: it did not go wrong, or there was none." */
    private static void failedOfTheLatest() {
        ThereAndBack x = new ThereAndBack();
        check.due("failed() ahead of get()", x.failed(), 0);
        x.set(8, 0, 0, 0);
        x.set(0, 0, 0, 0);
        x.copy(0, 0, 1, 0, 0);
        x.put(0, 0);
        check.due("failed() behind other calls", x.failed(), 0);
        dueFailed(x, 0, 0, 0, NULL);
        x.lay(0, 0, 1);
        x.set(0, 0, 0, 5);
        x.wipe();
        check.due("failed() behind other calls", x.failed(), NULL);
        check.due("get(0, 0, 0)", x.get(0, 0, 0), 5);
        check.due("failed()", x.failed(), 0);
        dueFailed(x, 0, 1, 0, CAST);
        dueFailed(x, 0, 0, 1, INDEX);
        dueFailed(x, 8, 0, 0, BAD);
        x.lay(0, 0, 1);
        check.due("get(0, 0, 0), 0 by itself", x.get(0, 0, 0), 0);
        check.due("failed()", x.failed(), 0);
    }

    /** Promise 35: "n ITEMS of a place from i on come to another one (or the same) from j on ..: n." */
    private static void copies() {
        for (int kind = 0; kind <= 4; kind++) {
            ThereAndBack x = held(kind, Why.LEAST[kind], 1, Why.MOST[kind]);
            x.lay(7, kind, 4);
            check.due("copy(0, 0, 7, 0, 0)", x.copy(0, 0, 7, 0, 0), 0);
            dueItems(x, 7, kind, 0, 0, 0, 0);
            check.due("copy(0, 2, 7, 0, 1)", x.copy(0, 2, 7, 0, 1), 1);
            dueItems(x, 7, kind, Why.MOST[kind], 0, 0, 0);
            check.due("copy(0, 0, 7, 1, 3)", x.copy(0, 0, 7, 1, 3), 3);
            dueItems(x, 7, kind, Why.MOST[kind], Why.LEAST[kind], 1, Why.MOST[kind]);
            dueItems(x, 0, kind, Why.LEAST[kind], 1, Why.MOST[kind]);
        }
    }

    /** Promise 35: "as if all were taken ahead": within one row, at one place or at two. */
    private static void copiesAsIfTakenAhead() {
        dueCopied(0, 0, 5, 1, 2, 3, 4, 5);
        dueCopied(0, 1, 4, 1, 1, 2, 3, 4);
        dueCopied(1, 0, 4, 2, 3, 4, 5, 5);
        dueCopied(0, 4, 1, 1, 2, 3, 4, 1);
        dueCopied(4, 0, 1, 5, 2, 3, 4, 5);
        dueCopied(0, 2, 3, 1, 2, 1, 2, 3);
        dueCopied(2, 0, 3, 3, 4, 5, 4, 5);
        dueCopied(5, 5, 0, 1, 2, 3, 4, 5);
    }

    private static void dueCopied(int i, int j, int n, long... want) {
        ThereAndBack x = held(Why.INT, 1, 2, 3, 4, 5);
        check.due("copy(0, " + i + ", 0, " + j + ", " + n + ")", x.copy(0, i, 0, j, n), n);
        dueItems(x, 0, Why.INT, want);
        ThereAndBack y = held(Why.INT, 1, 2, 3, 4, 5);
        y.put(0, 0);
        y.lift(0, 1);
        check.due("copy(0, " + i + ", 1, " + j + ", " + n + ")", y.copy(0, i, 1, j, n), n);
        dueItems(y, 0, Why.INT, want);
    }

    /** Promise 35: "INDEX: n, i, j below 0, or beyond (exactly)." */
    private static void copyIndex() {
        ThereAndBack x = held(Why.INT, 1, 2, 3, 4, 5);
        x.lay(1, Why.INT, 3);
        int[][] good = {{5, 3, 0}, {4, 2, 1}, {2, 0, 3}, {0, 0, 3}, {0, 3, 0}, {5, 0, 0}};
        for (int[] c : good) check.due("copy(0, i, 1, j, n)", x.copy(0, c[0], 1, c[1], c[2]), c[2]);
        x.lay(1, Why.INT, 3);
        int[][] beyond = {{6, 3, 0}, {5, 4, 0}, {5, 2, 1}, {4, 3, 1}, {3, 0, 3}, {2, 1, 3}, {0, 0, 4}, {0, 0, 6},
            {-1, 0, 0}, {0, -1, 0}, {0, 0, -1}, {-1, 0, 1}, {0, -1, 1}, {2, 2, -1}, {5, 3, -1}};
        for (int[] c : beyond) check.due("copy(0, i, 1, j, n)", x.copy(0, c[0], 1, c[1], c[2]), INDEX);
        for (int far : new int[] {LEAST, MOST}) {
            check.due("i far", x.copy(0, far, 1, 0, 1), INDEX);
            check.due("j far", x.copy(0, 0, 1, far, 1), INDEX);
            check.due("n far", x.copy(0, 0, 1, 0, far), INDEX);
            check.due("i and n far", x.copy(0, far, 1, 0, far), INDEX);
            check.due("j and n far", x.copy(0, 0, 1, far, far), INDEX);
            check.due("all far", x.copy(0, far, 1, far, far), INDEX);
        }
        check.due("i + n goes round", x.copy(0, MOST, 1, 0, MOST), INDEX);
        check.due("i + n goes round to 0", x.copy(0, LEAST, 1, 0, LEAST), INDEX);
        dueItems(x, 0, Why.INT, 1, 2, 3, 4, 5);
        dueItems(x, 1, Why.INT, 0, 0, 0);
        x.lay(2, Why.INT, 0);
        check.due("copy of a row of none", x.copy(2, 0, 2, 0, 0), 0);
        check.due("copy of one of none", x.copy(2, 0, 1, 0, 1), INDEX);
        check.due("copy of one to none", x.copy(1, 0, 2, 0, 1), INDEX);
    }

    /** Promise 35: "BAD; NULL (either); STORE: of unlike KINDS; INDEX". */
    private static void copyRefused() {
        ThereAndBack x = held(Why.INT, 1, 2);
        check.dueEach("copy(from, ..)", from -> x.copy(from, 0, 0, 0, 1), BAD, Check.outside(7));
        check.dueEach("copy(.., to, ..)", to -> x.copy(0, 0, to, 0, 1), BAD, Check.outside(7));
        check.dueEach("copy(from, ..), BAD ahead of NULL", from -> x.copy(from, 0, 1, 0, 1), BAD, Check.outside(7));
        check.dueEach("copy(.., to, ..), BAD ahead of NULL", to -> x.copy(1, 0, to, 0, 1), BAD, Check.outside(7));
        check.dueEach("copy(from, ..)", from -> x.copy(from, 0, 0, 0, 1), NULL, 1, 7);
        check.dueEach("copy(.., to, ..)", to -> x.copy(0, 0, to, 0, 1), NULL, 1, 7);
        check.due("copy of nothing to nothing", x.copy(1, 0, 1, 0, 0), NULL);
        check.due("NULL ahead of INDEX", x.copy(0, -1, 1, 0, 1), NULL);
        for (int kind = 1; kind <= 4; kind++) {
            x.lay(2, kind, 2);
            check.due("copy to KIND " + kind, x.copy(0, 0, 2, 0, 1), STORE);
            check.due("copy from KIND " + kind, x.copy(2, 0, 0, 0, 1), STORE);
            check.due("copy of none", x.copy(2, 0, 0, 0, 0), STORE);
            check.due("STORE ahead of INDEX", x.copy(2, -1, 0, 5, -1), STORE);
            dueItems(x, 2, kind, 0, 0);
        }
        x.lay(3, Why.SHORT, 1);
        x.lay(4, Why.CHAR, 1);
        check.due("copy of as many bits", x.copy(3, 0, 4, 0, 1), STORE);
        dueItems(x, 0, Why.INT, 1, 2);
    }

    /** Promise 36: "Whether two places hold the very same row of ITEMS, or nothing both: 1, 0." */
    private static void alikes() {
        ThereAndBack x = new ThereAndBack();
        check.due("alike(0, 7) of nothing both", x.alike(0, 7), 1);
        check.due("alike(7, 7) of nothing", x.alike(7, 7), 1);
        x.lay(0, Why.INT, 0);
        check.due("alike(0, 7)", x.alike(0, 7), 0);
        check.due("alike(7, 0)", x.alike(7, 0), 0);
        check.due("alike(0, 0)", x.alike(0, 0), 1);
        x.lay(7, Why.INT, 0);
        check.due("alike(0, 7) of two of none", x.alike(0, 7), 0);
        x.put(0, 0);
        x.lift(0, 7);
        check.due("alike(0, 7) of the very same", x.alike(0, 7), 1);
        x.lay(0, Why.INT, 0);
        check.due("alike(0, 7) behind lay()", x.alike(0, 7), 0);
        x.lift(5, 7);
        x.lift(5, 0);
        check.due("alike(0, 7) of nothing both again", x.alike(0, 7), 1);
    }

    /** Promise 36: "BAD." */
    private static void alikeRefused() {
        ThereAndBack x = held(Why.INT, 1, 2);
        check.dueEach("alike(a, 0)", a -> x.alike(a, 0), BAD, Check.outside(7));
        check.dueEach("alike(0, b)", b -> x.alike(0, b), BAD, Check.outside(7));
        check.dueEach("alike(a, a)", a -> x.alike(a, a), BAD, Check.outside(7));
        check.due("alike(0, 0)", x.alike(0, 0), 1);
    }
}

/** The edges of Terms 2, STEPS DONE FORWARD and BACK. One method a sentence, which its remark names. */
final class StepEdgesTest {
    private static final Check check = new Check();
    private static final int INT_LEAST = Integer.MIN_VALUE, INT_MOST = Integer.MAX_VALUE;

    public static void main(String[] args) {
        lets();
        letsRefused();
        unlets();
        unletsRefused();
        changesCut();
        namesCut();
        changesRefused();
        selfInItsOwnBrackets();
        selfInE();
        turnedRound();
        turnedByMuch();
        turnsOfNames();
        exchanges();
        exchangesOfKinds();
        exchangesOfTheSame();
        exchangesOfWhatIsRead();
        readInAnotherStep();
        exchangesRefusedInOrder();
        pushes();
        pops();
        news();
        ends();
        endsRefused();
        doneBack();
        check.end();
    }

    /** Terms 2: "let N = E: .. N is there, E cut to an int." */
    private static void lets() {
        long[] given = {INT_MOST, INT_MOST + 1L, INT_LEAST, INT_LEAST - 1L, 1L << 32, (1L << 32) - 1, Long.MIN_VALUE, Long.MAX_VALUE};
        int[] cut = {INT_MOST, INT_LEAST, INT_LEAST, INT_MOST, 0, -1, 0, -1};
        for (int i = 0; i < given.length; i++) {
            new Scene(check, "let a = B[0];").row('B', Why.LONG, given[i]).done().isName('a', cut[i]);
            new Scene(check, "unlet a = B[0];").row('B', Why.LONG, given[i]).doneBack().isName('a', cut[i]);
        }
    }

    /** Terms 2: "let N = E: 14 THERE (N is); E". */
    private static void letsRefused() {
        new Scene(check, "let a = 1;").name('a', 1).refused(Why.THERE).isName('a', 1);
        new Scene(check, "let a = 1;").name('a', 0).refused(Why.THERE).isName('a', 0);
        new Scene(check, "let a = c;").name('a', 0).refused(Why.THERE);
        new Scene(check, "let a = c;").refused(Why.ABSENT).isNoName('a');
        new Scene(check, "let a = 1;").name('b', 0).done().isName('a', 1);
    }

    /** Terms 2: "unlet N = E: .. 8 VALUE (N is not E cut to an int); N is not there any more." */
    private static void unlets() {
        new Scene(check, "unlet a = 4;").name('a', 5).refused(Why.VALUE).isName('a', 5);
        new Scene(check, "unlet a = 5;").name('a', 5).done().isNoName('a');
        new Scene(check, "unlet a = 6;").name('a', 5).refused(Why.VALUE).isName('a', 5);
        new Scene(check, "unlet a = 0;").name('a', 0).done().isNoName('a');
        new Scene(check, "unlet a = 5 + 65536 * 65536;").name('a', 5).done().isNoName('a');
        new Scene(check, "unlet a = B[0];").name('a', INT_LEAST).row('B', Why.LONG, 1L << 31).done().isNoName('a');
        new Scene(check, "unlet a = B[0];").name('a', INT_MOST).row('B', Why.LONG, 1L << 31).refused(Why.VALUE);
        new Scene(check, "unlet a = B[0];").name('a', -1).row('B', Why.LONG, (1L << 32) - 1).done().isNoName('a');
    }

    /** Terms 2: "unlet N = E: ABSENT; E; 8 VALUE". */
    private static void unletsRefused() {
        new Scene(check, "unlet a = 0;").refused(Why.ABSENT);
        new Scene(check, "unlet a = #C;").refused(Why.ABSENT);
        new Scene(check, "unlet a = #C;").name('a', 0).refused(Why.MISSING).isName('a', 0);
        new Scene(check, "unlet a = 1 / 0;").name('a', 0).refused(Why.ZERO);
    }

    /** Terms 2: "P becomes it and E (less E; turned by exclusive or), cut to its KIND"; "Cut to a KIND are the lowest bits." */
    private static void changesCut() {
        for (int kind = 0; kind <= 4; kind++) {
            long least = Why.LEAST[kind];
            long most = Why.MOST[kind];
            dueChanged("+= 0", kind, most, most);
            dueChanged("+= 1", kind, most - 1, most);
            dueChanged("+= 1", kind, most, least);
            dueChanged("-= 1", kind, least, most);
            dueChanged("-= 1", kind, least + 1, least);
            dueChanged("-= -1", kind, most, least);
            dueChanged("+= -1", kind, least, most);
            dueChanged("^= 0", kind, most, most);
            dueChanged("^= -1", kind, least, most);
            dueChanged("^= -1", kind, most, least);
            dueChanged("^= 1", kind, most, most - 1);
            if (kind != Why.LONG) dueChanged("+= 65536 * 65536", kind, 1, 1);
        }
        dueChanged("+= 256", Why.BYTE, 1, 1);
        dueChanged("+= 128", Why.BYTE, 0, -128);
        dueChanged("+= 65536", Why.SHORT, 1, 1);
        dueChanged("+= 32768", Why.SHORT, 0, -32768);
        dueChanged("+= 32768", Why.CHAR, 0, 32768);
        dueChanged("+= 65535", Why.CHAR, 1, 0);
    }

    /** The middle one of three ITEMS is changed, and no other. */
    private static void dueChanged(String change, int kind, long from, long to) {
        new Scene(check, "A[1] " + change + ";").row('A', kind, 0, from, 0).done().isRow('A', kind, 0, to, 0);
    }

    /** Terms 2: "cut to its KIND (NAMES: int)". */
    private static void namesCut() {
        new Scene(check, "a += 1;").name('a', INT_MOST - 1).done().isName('a', INT_MOST);
        new Scene(check, "a += 1;").name('a', INT_MOST).done().isName('a', INT_LEAST);
        new Scene(check, "a -= 1;").name('a', INT_LEAST + 1).done().isName('a', INT_LEAST);
        new Scene(check, "a -= 1;").name('a', INT_LEAST).done().isName('a', INT_MOST);
        new Scene(check, "a += 65536 * 65536;").name('a', 3).done().isName('a', 3);
        new Scene(check, "a ^= 65536 * 65536 - 1;").name('a', 3).done().isName('a', -4);
        new Scene(check, "a -= b;").name('a', 0).name('b', INT_LEAST).done().isName('a', INT_LEAST);
    }

    /** Terms 2: "P: a NAME (ABSENT), or R [ E ] as in an E; SELF ..; E". */
    private static void changesRefused() {
        for (String sign : new String[] {" += ", " -= ", " ^= ", " << ", " >> "}) {
            new Scene(check, "a" + sign + "#C;").refused(Why.ABSENT).isNoName('a');
            new Scene(check, "a" + sign + "#C;").name('a', 1).refused(Why.MISSING).isName('a', 1);
            new Scene(check, "A[c]" + sign + "#C;").refused(Why.ABSENT);
            new Scene(check, "A[0]" + sign + "c;").refused(Why.MISSING);
            new Scene(check, "A[2]" + sign + "c;").row('A', Why.INT, 1, 1).refused(Why.OUTSIDE);
            new Scene(check, "A[-1]" + sign + "c;").row('A', Why.INT, 1, 1).refused(Why.OUTSIDE);
            new Scene(check, "A[0]" + sign + "c;").row('A', Why.INT).refused(Why.OUTSIDE);
            new Scene(check, "B[A[11] + 1]" + sign + "c;").row('A', Why.INT, new long[12]).row('B', Why.INT, 1).refused(Why.OUTSIDE);
            new Scene(check, "A[1 / 0]" + sign + "c;").row('A', Why.INT, 1, 1).refused(Why.ZERO);
            new Scene(check, "A[A[0]]" + sign + "c;").row('A', Why.INT, 0, 1).refused(Why.SELF);
            new Scene(check, "A[1]" + sign + "c + A[1];").row('A', Why.INT, 1, 1).refused(Why.ABSENT);
            new Scene(check, "A[1]" + sign + "A[1] + c;").row('A', Why.INT, 1, 1).refused(Why.SELF);
        }
    }

    /** Terms 2: "SELF, if its ITEM was read in its own [ ]". */
    private static void selfInItsOwnBrackets() {
        new Scene(check, "A[A[0]] += 1;").row('A', Why.INT, 0, 0).refused(Why.SELF).isRow('A', Why.INT, 0, 0);
        new Scene(check, "A[A[0]] += 1;").row('A', Why.INT, 1, 0).done().isRow('A', Why.INT, 1, 1);
        new Scene(check, "A[A[1]] += 1;").row('A', Why.INT, 0, 0).done().isRow('A', Why.INT, 1, 0);
        new Scene(check, "A[A[1]] += 1;").row('A', Why.INT, 0, 1).refused(Why.SELF);
        new Scene(check, "A[B[1]] += 1;").row('A', Why.INT, 0, 1).alias('B', 'A').refused(Why.SELF);
        new Scene(check, "A[B[1]] += 1;").row('A', Why.INT, 0, 1).row('B', Why.INT, 0, 1).done().isRow('A', Why.INT, 0, 2);
        new Scene(check, "A[0 * A[2] + 1] += 1;").row('A', Why.INT, 0, 0, 0).done();
        new Scene(check, "A[0 * A[2] + 2] += 1;").row('A', Why.INT, 0, 0, 0).refused(Why.SELF);
        new Scene(check, "A[C[A[0]]] += 1;").row('A', Why.INT, 0, 0).row('C', Why.BYTE, 0).refused(Why.SELF);
        new Scene(check, "A[#A - 1] += 1;").row('A', Why.INT, 0, 0).done();
        new Scene(check, "A[11 * (A[11] = 0)] += 1;").row('A', Why.INT, new long[12]).refused(Why.SELF);
        new Scene(check, "A[A[0] - A[0]] += 1;").row('A', Why.INT, 5).refused(Why.SELF);
    }

    /** Terms 2: "E (SELF, where that very ITEM is read, also as one of another ROW)". */
    private static void selfInE() {
        new Scene(check, "A[1] += A[0];").row('A', Why.INT, 4, 5).done().isRow('A', Why.INT, 4, 9);
        new Scene(check, "A[1] += A[1];").row('A', Why.INT, 4, 5).refused(Why.SELF).isRow('A', Why.INT, 4, 5);
        new Scene(check, "A[1] += A[2];").row('A', Why.INT, 4, 5, 6).done().isRow('A', Why.INT, 4, 11, 6);
        new Scene(check, "A[1] += B[0];").row('A', Why.INT, 4, 5).alias('B', 'A').done().isRow('B', Why.INT, 4, 9);
        new Scene(check, "A[1] += B[1];").row('A', Why.INT, 4, 5).alias('B', 'A').refused(Why.SELF);
        new Scene(check, "A[1] += B[1];").row('A', Why.INT, 4, 5).row('B', Why.INT, 4, 5).done().isRow('A', Why.INT, 4, 10);
        new Scene(check, "A[1] += 0 * A[1];").row('A', Why.INT, 4, 5).refused(Why.SELF);
        new Scene(check, "A[1] += C[A[1]];").row('A', Why.INT, 4, 5).row('C', Why.INT, 1).refused(Why.SELF);
        new Scene(check, "A[1] += A[1] / 0;").row('A', Why.INT, 4, 5).refused(Why.SELF);
        new Scene(check, "A[1] += 1 / 0 + A[1];").row('A', Why.INT, 4, 5).refused(Why.ZERO);
        new Scene(check, "A[1] += #A;").row('A', Why.INT, 4, 5).done().isRow('A', Why.INT, 4, 7);
        new Scene(check, "A[1] += A[1];").row('A', Why.INT, 4, 5).refusedBack(Why.SELF);
    }

    /** Terms 2: "<< >> likewise: its bits (8, 16, 32, 64) turned round to the left (right) by E modulo how many they are". */
    private static void turnedRound() {
        for (int kind = 0; kind <= 4; kind++) {
            int bits = Why.BITS[kind];
            long top = kind == Why.CHAR ? 32768 : Why.LEAST[kind];
            dueChanged("<< 0", kind, 1, 1);
            dueChanged("<< 1", kind, 1, 2);
            dueChanged("<< " + (bits - 1), kind, 1, top);
            dueChanged("<< " + bits, kind, 1, 1);
            dueChanged("<< " + (bits + 1), kind, 1, 2);
            dueChanged("<< 1", kind, top, 1);
            dueChanged("<< 1", kind, top + 1, 3);
            dueChanged(">> 0", kind, 1, 1);
            dueChanged(">> 1", kind, 1, top);
            dueChanged(">> " + (bits - 1), kind, 1, 2);
            dueChanged(">> " + bits, kind, 1, 1);
            dueChanged(">> " + (bits + 1), kind, 1, top);
            dueChanged(">> 1", kind, 2, 1);
            dueChanged(">> 3", kind, kind == Why.CHAR ? 65535 : -1, kind == Why.CHAR ? 65535 : -1);
        }
    }

    /** Terms 2: "by E modulo how many they are (0 or more)": an E below 0, and one that is no int. */
    private static void turnedByMuch() {
        for (int kind = 0; kind <= 4; kind++) {
            int bits = Why.BITS[kind];
            long top = kind == Why.CHAR ? 32768 : Why.LEAST[kind];
            dueChanged("<< -1", kind, 1, top);
            dueChanged("<< -" + (bits - 1), kind, 1, 2);
            dueChanged("<< -" + bits, kind, 1, 1);
            dueChanged("<< -" + (bits + 1), kind, 1, top);
            dueChanged(">> -1", kind, 1, 2);
            dueChanged(">> -" + bits, kind, 1, 1);
            dueChanged(">> -" + (bits + 1), kind, 1, 2);
            dueChanged("<< 65536 * 65536", kind, 1, 1);
            dueChanged("<< 65536 * 65536 + 1", kind, 1, 2);
            dueTurnedBy("<<", Long.MIN_VALUE, kind, 1);
            dueTurnedBy("<<", Long.MIN_VALUE + 1, kind, 2);
            dueTurnedBy("<<", Long.MAX_VALUE, kind, top);
            dueTurnedBy(">>", Long.MIN_VALUE, kind, 1);
            dueTurnedBy(">>", Long.MIN_VALUE + 1, kind, top);
            dueTurnedBy(">>", Long.MAX_VALUE, kind, 2);
        }
    }

    private static void dueTurnedBy(String sign, long by, int kind, long want) {
        new Scene(check, "A[0] " + sign + " B[0];").row('A', kind, 1).row('B', Why.LONG, by).done().isRow('A', kind, want);
    }

    /** Terms 2: "<< >> likewise", of NAMES: 32 bits. */
    private static void turnsOfNames() {
        new Scene(check, "a << 31;").name('a', 1).done().isName('a', INT_LEAST);
        new Scene(check, "a << 32;").name('a', 1).done().isName('a', 1);
        new Scene(check, "a << 33;").name('a', 1).done().isName('a', 2);
        new Scene(check, "a >> 1;").name('a', 1).done().isName('a', INT_LEAST);
        new Scene(check, "a >> 32;").name('a', INT_LEAST).done().isName('a', INT_LEAST);
        new Scene(check, "a << 1;").name('a', INT_LEAST).done().isName('a', 1);
        new Scene(check, "a << -1;").name('a', -2).done().isName('a', INT_MOST);
    }

    /** Terms 2: "P <> P: .. they are exchanged." */
    private static void exchanges() {
        new Scene(check, "a <> b;").name('a', INT_LEAST).name('b', INT_MOST).done().isName('a', INT_MOST).isName('b', INT_LEAST);
        new Scene(check, "a <> B[0];").name('a', 1).row('B', Why.INT, 2).done().isName('a', 2).isRow('B', Why.INT, 1);
        new Scene(check, "B[0] <> a;").name('a', 1).row('B', Why.INT, 2).done().isName('a', 2).isRow('B', Why.INT, 1);
        new Scene(check, "A[0] <> A[11];").row('A', Why.CHAR, 65535, 0, 0, 0, 0, 0, 0, 0, 0, 0, 0, 7).done()
            .isRow('A', Why.CHAR, 7, 0, 0, 0, 0, 0, 0, 0, 0, 0, 0, 65535);
        new Scene(check, "A[0] <> B[0];").row('A', Why.LONG, Long.MIN_VALUE).row('B', Why.LONG, Long.MAX_VALUE).done()
            .isRow('A', Why.LONG, Long.MAX_VALUE).isRow('B', Why.LONG, Long.MIN_VALUE);
        new Scene(check, "A[0] <> B[1];").row('A', Why.BYTE, 1, 2).alias('B', 'A').done().isRow('A', Why.BYTE, 2, 1);
    }

    /** Terms 2: "10 KIND (not of one KIND; NAMES are ints)". */
    private static void exchangesOfKinds() {
        for (int a = 0; a <= 4; a++) {
            Scene name = new Scene(check, "a <> B[0];").name('a', 1).row('B', a, 2);
            if (a == Why.INT) name.done();
            else name.refused(Why.KIND).isName('a', 1).isRow('B', a, 2);
            for (int b = 0; b <= 4; b++) {
                Scene rows = new Scene(check, "A[0] <> B[0];").row('A', a, 1).row('B', b, 2);
                if (a == b) rows.done().isRow('A', a, 2).isRow('B', b, 1);
                else rows.refused(Why.KIND).isRow('A', a, 1).isRow('B', b, 2);
            }
        }
    }

    /** Terms 2: "SELF: both are the same". */
    private static void exchangesOfTheSame() {
        new Scene(check, "a <> a;").name('a', 1).refused(Why.SELF).isName('a', 1);
        new Scene(check, "A[0] <> A[0];").row('A', Why.INT, 1, 1).refused(Why.SELF);
        new Scene(check, "A[0] <> A[1];").row('A', Why.INT, 1, 1).done();
        new Scene(check, "A[1] <> A[b];").name('b', 1).row('A', Why.INT, 1, 1).refused(Why.SELF);
        new Scene(check, "A[0] <> B[0];").row('A', Why.INT, 1, 1).alias('B', 'A').refused(Why.SELF);
        new Scene(check, "A[0] <> B[1];").row('A', Why.INT, 1, 1).alias('B', 'A').done();
        new Scene(check, "A[0] <> B[0];").row('A', Why.INT, 1, 1).row('B', Why.INT, 1, 1).done();
        new Scene(check, "A[0] <> A[0];").row('A', Why.INT, 1, 1).refusedBack(Why.SELF);
    }

    /** Terms 2: "SELF: .. or one of both is read in a [ ] of this STEP". */
    private static void exchangesOfWhatIsRead() {
        new Scene(check, "a <> A[a];").name('a', 0).row('A', Why.INT, 5).refused(Why.SELF);
        new Scene(check, "A[a] <> a;").name('a', 0).row('A', Why.INT, 5).refused(Why.SELF);
        new Scene(check, "a <> A[0 * a];").name('a', 0).row('A', Why.INT, 5).refused(Why.SELF);
        new Scene(check, "a <> A[a - a];").name('a', 3).row('A', Why.INT, 5).refused(Why.SELF);
        for (char n = 'a'; n <= 'z'; n++) new Scene(check, n + " <> A[" + n + "];").name(n, 0).row('A', Why.INT, 5).refused(Why.SELF);
        new Scene(check, "a <> A[b];").name('a', 0).name('b', 0).row('A', Why.INT, 5).done();
        new Scene(check, "A[A[0]] <> b;").name('b', 3).row('A', Why.INT, 0, 0).refused(Why.SELF);
        new Scene(check, "A[A[0]] <> b;").name('b', 3).row('A', Why.INT, 1, 0).done().isRow('A', Why.INT, 1, 3);
        new Scene(check, "A[0] <> B[A[0]];").row('A', Why.INT, 0).row('B', Why.INT, 0).refused(Why.SELF);
        new Scene(check, "A[0] <> B[A[1]];").row('A', Why.INT, 5, 0).row('B', Why.INT, 6).done().isRow('A', Why.INT, 6, 0);
        new Scene(check, "A[B[0]] <> B[0];").row('A', Why.INT, 5).row('B', Why.INT, 0).refused(Why.SELF);
        new Scene(check, "A[B[1]] <> B[0];").row('A', Why.INT, 5).row('B', Why.INT, 6, 0).done().isRow('B', Why.INT, 5, 0);
        new Scene(check, "A[0] <> B[C[0]];").row('A', Why.INT, 0).row('B', Why.INT, 0).alias('C', 'A').refused(Why.SELF);
        new Scene(check, "A[0] <> B[#A - 1];").row('A', Why.INT, 5).row('B', Why.INT, 6).done();
    }

    /** Terms 2: "SELF, if its ITEM was read in its own [ ]", "read in a [ ] of this STEP": not in the STEP before. */
    private static void readInAnotherStep() {
        dueAllDone("A[A[0]] += 1; A[0] += 1;", 2);
        dueAllDone("A[1] += A[0]; A[0] += 1;", 2);
        dueAllDone("A[0] += 1; b += A[0];", 2);
        dueAllDone("b <> A[c]; c <> b;", 2);
        dueAllDone("b <> A[c]; c += 1; c <> b;", 3);
        dueAllDone("b += A[0]; A[0] <> A[1];", 2);
        dueAllDone("A[0] += 1; if A[0] { } else { } fi A[0];", 3);
        dueAllDone("A[0] <> b; A[b] += 1;", 2);
        dueAllDone("A[0] += 1; call 1;", 4);
    }

    /** From one end to the other and back; A is of ints 1 and 0; NAMES b and c are 0; ROUTINE 1 changes A, too. */
    private static void dueAllDone(String text, int goes) {
        Scene scene = new Scene(check, text);
        Check.read(scene.x, 1, "A[b + 1] += A[0];");
        scene.name('b', 0).name('c', 0).row('A', Why.INT, 1, 0);
        scene.x.begin(0, false);
        long before = scene.x.digest();
        check.due("run(300) of " + text, scene.x.run(300), goes);
        check.due("at(5) of " + text, scene.x.at(5), Why.ENDED);
        check.due("run(-300) of " + text, scene.x.run(-300), goes);
        check.due("digest() of " + text, scene.x.digest(), before);
    }

    /** Terms 2: "P <> P: the first P; the second; 10 KIND ..; SELF". */
    private static void exchangesRefusedInOrder() {
        new Scene(check, "a <> C[0];").refused(Why.ABSENT);
        new Scene(check, "C[0] <> a;").refused(Why.MISSING);
        new Scene(check, "A[1] <> b;").row('A', Why.INT, 0).refused(Why.OUTSIDE);
        new Scene(check, "A[1 / 0] <> b;").row('A', Why.INT, 0).refused(Why.ZERO);
        new Scene(check, "A[0] <> b;").row('A', Why.BYTE, 0).refused(Why.ABSENT);
        new Scene(check, "A[A[0]] <> b;").row('A', Why.INT, 0).refused(Why.ABSENT);
        new Scene(check, "A[0] <> B[A[0]];").row('A', Why.INT, 1).row('B', Why.INT, 0).refused(Why.OUTSIDE);
        new Scene(check, "A[0] <> B[A[0]];").row('A', Why.INT, 0).row('B', Why.BYTE, 0).refused(Why.KIND);
        new Scene(check, "A[A[0]] <> B[0];").row('A', Why.INT, 0).row('B', Why.BYTE, 0).refused(Why.KIND);
    }

    /** Terms 2: "push N S: ABSENT; 9 FULL; N comes on S, and is 0." */
    private static void pushes() {
        new Scene(check, "push a S;").refused(Why.ABSENT).isNoName('a').isStack('S');
        new Scene(check, "push a S;").name('a', INT_LEAST).done().isName('a', 0).isStack('S', INT_LEAST);
        new Scene(check, "push a S;").name('a', 0).done().isName('a', 0).isStack('S', 0);
        ThereAndBack x = Check.with("push a T;".repeat(31));
        x.give(0, 9);
        x.begin(0, false);
        check.due("run(30)", x.run(30), 30);
        check.due("the 31st", x.go(false), -20 - Why.FULL);
        Check.read(x, 1, "unlet a = 0; push a T;");
        x.begin(1, false);
        x.go(false);
        check.due("ABSENT ahead of FULL", x.go(false), -20 - Why.ABSENT);
        check.due("height(1)", x.height(1), 30);
    }

    /** Terms 2: "pop N S: ABSENT; VALUE (N is not 0); 5 EMPTY; N is the top of S, which goes." */
    private static void pops() {
        new Scene(check, "pop a S;").refused(Why.ABSENT).isNoName('a');
        for (int v : new int[] {-1, 1, INT_LEAST, INT_MOST}) new Scene(check, "pop a S;").name('a', v).refused(Why.VALUE).isName('a', v);
        new Scene(check, "pop a S;").name('a', 0).refused(Why.EMPTY).isName('a', 0);
        ThereAndBack x = Check.with("push a U; push b U; pop b U; pop a U; pop a U; unlet a = 4;");
        x.give(0, 4);
        x.give(1, 5);
        x.begin(0, false);
        check.due("run(3)", x.run(3), 3);
        check.due("value(1): the top", x.value(1), 5);
        check.due("height(2)", x.height(2), 1);
        check.due("go(false)", x.go(false), 1);
        check.due("value(0)", x.value(0), 4);
        check.due("height(2)", x.height(2), 0);
        check.due("VALUE ahead of EMPTY", x.go(false), -20 - Why.VALUE);
        x.give(0, 0);
        check.due("EMPTY", x.go(false), -20 - Why.EMPTY);
        x.give(0, 4);
        check.due("back to the beginning", x.run(-9), 4);
        check.due("height(2)", x.height(2), 0);
    }

    /** Terms 2: "new R KIND E: THERE; E; 7 SIZE (E is not 0 .. 12); R is there, all ITEMS 0, a row of its own." */
    private static void news() {
        for (String e : new String[] {"-1", "13", "-13", "65536 * 65536", "65536 * 65536 + 1", "-65536 * 65536"}) {
            new Scene(check, "new A int " + e + ";").refused(Why.SIZE).isNoRow('A');
            new Scene(check, "end A int " + e + ";").refusedBack(Why.SIZE).isNoRow('A');
        }
        for (int n : new int[] {0, 1, 11, 12}) {
            new Scene(check, "new A long " + n + ";").done().isRow('A', Why.LONG, new long[n]);
            new Scene(check, "end A long " + n + ";").doneBack().isRow('A', Why.LONG, new long[n]);
        }
        new Scene(check, "new A int 13;").row('A', Why.INT, 1).refused(Why.THERE).isRow('A', Why.INT, 1);
        new Scene(check, "new A int c;").row('A', Why.INT).refused(Why.THERE);
        new Scene(check, "new A int c;").refused(Why.ABSENT).isNoRow('A');
        Scene used = new Scene(check, "new A int 2;").row('A', Why.INT, 7, 7).row('B', Why.INT, 5, 5);
        used.x.wipe();
        used.done().isRow('A', Why.INT, 0, 0);
        used.x.lift(0, 0);
        check.due("alike(0, 7): a row of its own", used.x.alike(0, 7), 0);
    }

    /** Terms 2: "end R KIND E: .. VALUE (E is not how many ITEMS, or one is not 0); R is not there any more." */
    private static void ends() {
        new Scene(check, "end A int 1;").row('A', Why.INT, 0, 0).refused(Why.VALUE).isRow('A', Why.INT, 0, 0);
        new Scene(check, "end A int 2;").row('A', Why.INT, 0, 0).done().isNoRow('A');
        new Scene(check, "end A int 3;").row('A', Why.INT, 0, 0).refused(Why.VALUE);
        new Scene(check, "end A int 2 + 65536 * 65536;").row('A', Why.INT, 0, 0).refused(Why.VALUE);
        new Scene(check, "end A int 0;").row('A', Why.INT).done().isNoRow('A');
        new Scene(check, "end A int -1;").row('A', Why.INT).refused(Why.VALUE);
        new Scene(check, "end A int 1;").row('A', Why.INT).refused(Why.VALUE);
        new Scene(check, "end A int 12;").row('A', Why.INT, new long[12]).done().isNoRow('A');
        for (int at : new int[] {0, 5, 11}) {
            long[] items = new long[12];
            items[at] = 1;
            new Scene(check, "end A byte 12;").row('A', Why.BYTE, items).refused(Why.VALUE).isRow('A', Why.BYTE, items);
        }
        new Scene(check, "end A long 1;").row('A', Why.LONG, Long.MIN_VALUE).refused(Why.VALUE);
        new Scene(check, "end A char 1;").row('A', Why.CHAR, -1).refused(Why.VALUE);
    }

    /** Terms 2: "end R KIND E: MISSING; KIND; E; VALUE". */
    private static void endsRefused() {
        new Scene(check, "end A int c;").refused(Why.MISSING);
        for (int kind = 1; kind <= 4; kind++) new Scene(check, "end A int c;").row('A', kind, 1).refused(Why.KIND).isRow('A', kind, 1);
        new Scene(check, "end A int c;").row('A', Why.INT, 1).refused(Why.ABSENT);
        new Scene(check, "end A int 1;").row('A', Why.INT, 1).refused(Why.VALUE);
    }

    /** Terms 2: "DONE BACK is let as unlet is FORWARD (and so on)", and what REFUSES them so. */
    private static void doneBack() {
        new Scene(check, "let a = 5;").name('a', 5).doneBack().isNoName('a');
        new Scene(check, "let a = 5;").name('a', 6).refusedBack(Why.VALUE);
        new Scene(check, "let a = 5;").refusedBack(Why.ABSENT);
        new Scene(check, "unlet a = 5;").doneBack().isName('a', 5);
        new Scene(check, "unlet a = 5;").name('a', 5).refusedBack(Why.THERE);
        new Scene(check, "a += 1;").name('a', INT_LEAST).doneBack().isName('a', INT_MOST);
        new Scene(check, "a -= 1;").name('a', INT_MOST).doneBack().isName('a', INT_LEAST);
        new Scene(check, "a ^= -1;").name('a', 0).doneBack().isName('a', -1);
        new Scene(check, "a << 1;").name('a', 1).doneBack().isName('a', INT_LEAST);
        new Scene(check, "a >> 1;").name('a', INT_LEAST).doneBack().isName('a', 1);
        new Scene(check, "a <> b;").name('a', 1).name('b', 2).doneBack().isName('a', 2).isName('b', 1);
        new Scene(check, "push a S;").name('a', 1).refusedBack(Why.VALUE);
        new Scene(check, "push a S;").name('a', 0).refusedBack(Why.EMPTY);
        new Scene(check, "pop a S;").name('a', 3).doneBack().isName('a', 0).isStack('S', 3);
        new Scene(check, "pop a S;").refusedBack(Why.ABSENT);
        new Scene(check, "new A int 2;").row('A', Why.INT, 0, 0).doneBack().isNoRow('A');
        new Scene(check, "new A int 2;").row('A', Why.LONG, 0, 0).refusedBack(Why.KIND);
        new Scene(check, "new A int 2;").refusedBack(Why.MISSING);
        new Scene(check, "end A int 2;").doneBack().isRow('A', Why.INT, 0, 0);
        new Scene(check, "end A int 2;").row('A', Why.INT, 0, 0).refusedBack(Why.THERE);
    }
}

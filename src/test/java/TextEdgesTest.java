/** The edges of promises 1 to 10. One method a sentence, which its remark names. */
final class TextEdgesTest {
    private static final Check check = new Check();
    private static final int BAD = ThereAndBack.BAD, NOT = ThereAndBack.NOT, FULL = ThereAndBack.FULL;
    private static final String FORTY = "a += 1; ".repeat(40);

    public static void main(String[] args) {
        calls();
        newObject();
        bytesOfType();
        highestFirst();
        bytesThatCant();
        fullTape();
        tapeBehindRead();
        readInstructions();
        readFaults();
        readRoutines();
        faultOfTheLatest();
        faultWhat();
        dropped();
        dropRefused();
        toldInstructions();
        toldOuterSteps();
        toldOrdinary();
        toldDepth();
        toldNames();
        toldRefused();
        printedBytes();
        printRefused();
        outBytes();
        takenBytes();
        takeFull();
        sameTexts();
        sameRefused();
        check.end();
    }

    /** "An object is used for at most 512 calls": the last of them answers as the first. */
    private static void calls() {
        ThereAndBack x = new ThereAndBack();
        for (int n = 1; n <= 510; n++) check.due("call " + n, x.type(32, 1), n);
        check.due("call 511", x.type(32, 2), BAD);
        check.due("call 512", x.type(32, 1), 511);
    }

    /** Promise 1: "No TEXTS, nothing in THE STATE, no RUN; THE TAPE, THE OUT, THE BENCH are empty." */
    private static void newObject() {
        ThereAndBack x = new ThereAndBack();
        for (int r = 0; r < 10; r++) check.due("drop(" + r + ")", x.drop(r), NOT);
        check.due("go(false)", x.go(false), NOT);
        check.due("frame(0, 0)", x.frame(0, 0), NOT);
        check.due("take()", x.take(), 0);
        check.due("out(0)", x.out(0), BAD);
        for (int place = 0; place < 8; place++) check.due("get(" + place + ", 0, 0)", x.get(place, 0, 0), 0);
        check.due("failed()", x.failed(), ThereAndBack.NULL);
        check.due("wipe()", x.wipe(), 0);
        check.due("read(0) of the empty tape", x.read(0), 0);
        ThereAndBack other = new ThereAndBack();
        x.give(0, 1);
        check.due("another object has its own", other.has(0), 0);
        check.due("told(0, 0) of another object", other.told(0, 0), NOT);
    }

    /** Promise 2: "The n lowest bytes (1 .. 8) of w"; "BAD: n". */
    private static void bytesOfType() {
        ThereAndBack x = new ThereAndBack();
        long w = Check.word("a+=1+2;;");
        check.dueEach("type(w, n)", n -> x.type(w, n), BAD, Integer.MIN_VALUE, -8, -1, 0, 9, 16, Integer.MAX_VALUE);
        check.due("type(w, 1) behind these", x.type(Check.word("zzzzzzz "), 1), 1);
        check.due("type(w, 2)", x.type(Check.word("zzzzzz  "), 2), 3);
        check.due("type(w, 7)", x.type(Check.word("za+=1+2;"), 7), 10);
        check.due("type(w, 8)", x.type(Check.word("b+=3+44;"), 8), 18);
        check.due("read(0)", x.read(0), 2);
        check.dueText("print(0)", Check.printed(x, 0), "a += 1 + 2; b += 3 + 44;");
    }

    /** Promise 2: "of these the highest first, come behind THE TAPE: how many it has." */
    private static void highestFirst() {
        ThereAndBack x = new ThereAndBack();
        check.due("type 'a <'", x.type(Check.word("a <"), 3), 3);
        check.due("type '> b'", x.type(Check.word("> b"), 3), 6);
        check.due("type ';'", x.type(Check.word(";"), 1), 7);
        check.due("read(0)", x.read(0), 1);
        check.dueText("print(0)", Check.printed(x, 0), "a <> b;");
        check.due("type behind read", x.type(Check.word("b"), 1), 1);
    }

    /** Promise 2: "BAD: .. a byte is not 32 .. 126", wherever among the n; those above do not count. */
    private static void bytesThatCant() {
        ThereAndBack x = new ThereAndBack();
        for (int n = 1; n <= 8; n++) {
            for (int at = 0; at < n; at++) {
                long others = 0x2020202020202020L & ~(255L << 8 * at);
                int length = n;
                int place = at;
                check.dueEach("byte " + at + " of " + n, b -> x.type(others | (long) b << 8 * place, length), BAD, 0, 31, 127, 128, 255);
            }
        }
        check.due("nothing was typed", x.type(32, 1), 1);
        check.due("126s", x.type(0x7E7E7E7E7E7E7E7EL, 8), 9);
        check.due("32s", x.type(0x2020202020202020L, 8), 17);
        check.due("a byte above the n", x.type(0x1F20202020202020L, 7), 24);
        check.due("all bytes above the n", x.type(-256L | 32, 1), 25);
    }

    /** Promise 2: "FULL: 600." */
    private static void fullTape() {
        ThereAndBack x = blanks(592);
        check.due("type up to 600", x.type(0x2020202020202020L, 8), 600);
        check.due("type(w, 1) of 600", x.type(32, 1), FULL);
        ThereAndBack y = blanks(593);
        check.due("type up to 601", y.type(0x2020202020202020L, 8), FULL);
        check.due("type(w, 7): nothing came by FULL", y.type(0x20202020202020L, 7), 600);
        check.due("type(w, 8) of 600", y.type(0x2020202020202020L, 8), FULL);
        check.due("type of 600, BAD ahead", y.type(31, 1), BAD);
        check.due("type of 600, n BAD ahead", y.type(32, 9), BAD);
        check.due("read(0)", y.read(0), 0);
        check.due("type behind read", y.type(32, 1), 1);
    }

    private static ThereAndBack blanks(int n) {
        ThereAndBack x = new ThereAndBack();
        Check.type(x, " ".repeat(n));
        return x;
    }

    /** Promise 3: "THE TAPE, which is empty then (not by BAD)". */
    private static void tapeBehindRead() {
        ThereAndBack x = new ThereAndBack();
        Check.type(x, "a += 1;");
        check.dueEach("read", x::read, BAD, Check.outside(9));
        check.due("type behind BAD", x.type(32, 1), 8);
        check.due("read(0)", x.read(0), 1);
        check.due("type behind a TEXT", x.type(Check.word("+"), 1), 1);
        check.due("read(0) of a FAULT", x.read(0), -11);
        check.due("type behind a FAULT", x.type(32, 1), 1);
    }

    /** Promise 3: "becomes the TEXT of a ROUTINE: how many INSTRUCTIONS". */
    private static void readInstructions() {
        ThereAndBack x = new ThereAndBack();
        check.due("none", Check.read(x, 0, ""), 0);
        check.due("one", Check.read(x, 0, "a += 1;"), 1);
        check.due("39", Check.read(x, 0, FORTY.substring(8)), 39);
        check.due("40", Check.read(x, 0, FORTY), 40);
        check.due("41", Check.read(x, 0, FORTY + "a += 1;"), -14);
        check.due("told(0, 0): the 40 stay", x.told(0, 0), 40);
        check.due("none again", x.read(0), 0);
        check.due("told(0, 0)", x.told(0, 0), 0);
    }

    /** Promise 3: "-10 less the FAULT (it stays as it was)." */
    private static void readFaults() {
        String[] faults = {"+", "a += ---------b;", "a += a;", FORTY + "a += 1;", "call 10;", "a += 1; set a = 1;"};
        ThereAndBack x = Check.with("b -= 2;");
        x.give(1, 0);
        x.begin(0, false);
        x.go(false);
        for (int fault = 1; fault <= 6; fault++) {
            check.due("read(0) of FAULT " + fault, Check.read(x, 0, faults[fault - 1]), -10 - fault);
            check.due("fault(0)", x.fault(0), fault);
            check.dueText("print(0) behind FAULT " + fault, Check.printed(x, 0), "b -= 2;");
            check.due("read(1) of FAULT " + fault, Check.read(x, 1, faults[fault - 1]), -10 - fault);
            check.due("told(1, 0) behind FAULT " + fault, x.told(1, 0), NOT);
            check.due("at(1): the RUN stays", x.at(1), 1);
        }
        check.due("go(true)", x.go(true), 1);
    }

    /** Terms 1: "ROUTINES 0 .. 9 have a TEXT or none (at first)"; promise 3: "BAD." */
    private static void readRoutines() {
        ThereAndBack x = new ThereAndBack();
        for (int r = 0; r <= 9; r++) check.due("told(" + r + ", 0) at first", x.told(r, 0), NOT);
        for (int r = 0; r <= 9; r++) check.due("read(" + r + ")", Check.read(x, r, "a += 1; ".repeat(r)), r);
        check.dueEach("read", x::read, BAD, Check.outside(9));
        for (int r = 0; r <= 9; r++) check.due("told(" + r + ", 0)", x.told(r, 0), r);
    }

    /** Promise 4: "Of the latest read() that was not BAD: 0 the FAULT (0: none), 1 its PLACE (0)." */
    private static void faultOfTheLatest() {
        ThereAndBack x = new ThereAndBack();
        dueFaultNow(x, 0, 0);
        check.due("read(-1) as the first", x.read(-1), BAD);
        dueFaultNow(x, 0, 0);
        Check.read(x, 0, "  call 10;");
        dueFaultNow(x, 5, 7);
        check.due("read(10)", x.read(10), BAD);
        dueFaultNow(x, 5, 7);
        x.drop(0);
        x.wipe();
        x.type(Check.word("+"), 1);
        dueFaultNow(x, 5, 7);
        x.read(0);
        dueFaultNow(x, 1, 0);
        Check.read(x, 0, "a += 1;");
        dueFaultNow(x, 0, 0);
    }

    private static void dueFaultNow(ThereAndBack x, int fault, int place) {
        check.due("fault(0)", x.fault(0), fault);
        check.due("fault(1)", x.fault(1), place);
    }

    /** Promise 4: "BAD." */
    private static void faultWhat() {
        ThereAndBack x = new ThereAndBack();
        Check.read(x, 0, "b += 1; a += a;");
        check.dueEach("fault", x::fault, BAD, Check.outside(1));
        dueFaultNow(x, 3, 8);
    }

    /** Promise 5: "A ROUTINE has no TEXT: how many INSTRUCTIONS it had." */
    private static void dropped() {
        ThereAndBack x = new ThereAndBack();
        String[] texts = {"", "a += 1;", FORTY, "while a { };"};
        int[] sizes = {0, 1, 40, 2};
        for (int i = 0; i < texts.length; i++) {
            for (int r = 0; r <= 9; r += 9) {
                Check.read(x, r, texts[i]);
                check.due("drop(" + r + ") of " + texts[i], x.drop(r), sizes[i]);
                check.due("drop(" + r + ") again", x.drop(r), NOT);
                check.due("told(" + r + ", 0)", x.told(r, 0), NOT);
                check.due("begin(" + r + ", false)", x.begin(r, false), NOT);
            }
        }
    }

    /** Promise 5: "BAD; NOT: it has none." */
    private static void dropRefused() {
        ThereAndBack x = Check.with("a += 1;");
        x.begin(0, false);
        check.dueEach("drop", x::drop, BAD, Check.outside(9));
        check.dueEach("drop", x::drop, NOT, 1, 9);
        check.due("at(0): the RUN stays", x.at(0), 0);
        check.due("drop(0)", x.drop(0), 1);
        check.due("at(0): no RUN", x.at(0), NOT);
    }

    /** Promise 6: "0 INSTRUCTIONS". */
    private static void toldInstructions() {
        dueTold(0, "", 0);
        dueTold(0, "a += 1;", 1);
        dueTold(0, "while a { };", 2);
        dueTold(0, "if a { } else { } fi a;", 3);
        dueTold(0, FORTY, 40);
    }

    /** Promise 6: "1 STEPS that are within no other one". */
    private static void toldOuterSteps() {
        dueTold(1, "", 0);
        dueTold(1, "a += 1;", 1);
        dueTold(1, FORTY, 40);
        dueTold(1, "if a { a += 1; b += 1; } else { c += 1; } fi a;", 1);
        dueTold(1, "if a { a += 1; } else { } fi a; b += 1;", 2);
        dueTold(1, "b += 1; from a { } loop { a += 1; } until a;", 2);
        dueTold(1, "when a { set a = 1; } else { while a { set a = 1; }; }; while a { }; set a = 1;", 3);
    }

    /** Promise 6: "2 whether it is ORDINARY (1, 0)". */
    private static void toldOrdinary() {
        dueTold(2, "", 0);
        dueTold(2, "a += 1;", 0);
        dueTold(2, "if a { } else { } fi a;", 0);
        dueTold(2, "set a = 1;", 1);
        dueTold(2, "while a { };", 1);
        dueTold(2, "when a { } else { };", 1);
    }

    /** Promise 6: "3 how many { } are within one another at most". */
    private static void toldDepth() {
        for (int n = 0; n <= 5; n++) dueTold(3, "if a {".repeat(n) + "} else { } fi a;".repeat(n), n);
        for (int n = 0; n <= 5; n++) dueTold(3, "while a {".repeat(n) + "};".repeat(n) + "set a = 1;", n);
        dueTold(3, "from a { } loop { if a { } else { } fi a; } until a; if a { } else { } fi a;", 2);
        dueTold(3, "if a { } else { } fi a; if a { } else { } fi a;", 1);
    }

    /** Promise 6: "4 NAMES that stand in it (bits)". */
    private static void toldNames() {
        dueTold(4, "", 0);
        dueTold(4, "call 1; new A int 3; end F char 0;", 0);
        dueTold(4, "let a = 1;", 1);
        dueTold(4, "let z = 1;", 1 << 25);
        dueTold(4, "b += c; A[d] <> e; push f S; if g { } else { } fi h;", 0xFE);
        StringBuilder all = new StringBuilder();
        for (char n = 'a'; n <= 'z'; n++) all.append("push ").append(n).append(" S;");
        dueTold(4, all.toString(), (1 << 26) - 1);
    }

    /** Of a ROUTINE that had other TEXTS before. */
    private static void dueTold(int what, String text, int want) {
        ThereAndBack x = new ThereAndBack();
        for (int n = 0; n < 3; n++) Check.read(x, 9, "if z { if z { z += 1; } else { } fi x; } else { } fi y; z += 1;");
        Check.read(x, 9, text);
        check.due("told(9, " + what + ") of " + text, x.told(9, what), want);
        check.due("told(9, " + what + ") again", x.told(9, what), want);
    }

    /** Promise 6: "BAD; NOT: it has no TEXT." */
    private static void toldRefused() {
        ThereAndBack x = Check.with("a += 1;");
        for (int what = 0; what <= 4; what++) {
            int asked = what;
            check.dueEach("told(r, " + what + ")", r -> x.told(r, asked), BAD, Check.outside(9));
            check.dueEach("told(r, " + what + ")", r -> x.told(r, asked), NOT, 1, 9);
        }
        check.dueEach("told(0, what)", what -> x.told(0, what), BAD, Check.outside(4));
        check.dueEach("told(1, what), BAD ahead of NOT", what -> x.told(1, what), BAD, Check.outside(4));
        check.due("told(0, 0)", x.told(0, 0), 1);
    }

    /** Promise 7: "A ROUTINE is PRINTED to THE OUT: how many bytes." */
    private static void printedBytes() {
        ThereAndBack x = Check.with("a+=1;");
        Check.read(x, 9, "");
        check.due("print(0)", x.print(0), 7);
        check.due("out(6)", x.out(6), ';');
        check.due("print(9) of no STEP", x.print(9), 0);
        check.due("out(0) of no byte", x.out(0), BAD);
        check.due("print(0) again", x.print(0), 7);
        check.due("out(0)", x.out(0), 'a');
        Check.read(x, 1, " a+=b" + "+b".repeat(297) + ";");
        check.due("print(1): more than a tape has", x.print(1), "a += b;".length() + 297 * " + b".length());
        check.due("out of the last byte", x.out(1194), ';');
        check.due("out behind the last byte", x.out(1195), BAD);
    }

    /** Promise 7: "BAD; NOT." */
    private static void printRefused() {
        ThereAndBack x = Check.with("a += 1;");
        x.print(0);
        check.dueEach("print", x::print, BAD, Check.outside(9));
        check.dueEach("print", x::print, NOT, 1, 9);
        check.due("out(6): THE OUT stays", x.out(6), ';');
        check.due("out(7)", x.out(7), BAD);
        x.drop(0);
        check.due("print(0) of none any more", x.print(0), NOT);
        check.due("take(): THE OUT stays", x.take(), 7);
    }

    /** Promise 8: "Byte i of THE OUT. BAD: there is none." */
    private static void outBytes() {
        ThereAndBack x = Check.with("a<>b;");
        check.dueEach("out of the empty one", x::out, BAD, Integer.MIN_VALUE, -1, 0, 1, Integer.MAX_VALUE);
        x.print(0);
        for (int i = 0; i < 7; i++) check.due("out(" + i + ")", x.out(i), "a <> b;".charAt(i));
        check.dueEach("out", x::out, BAD, Check.outside(6));
        Check.read(x, 1, "a^=b+1;");
        x.print(1);
        check.due("out(10) of a longer one", x.out(10), ';');
        x.print(0);
        check.dueEach("out of the shorter one again", x::out, BAD, 7, 8, 10);
    }

    /** Promise 9: "THE OUT becomes THE TAPE: how many bytes." */
    private static void takenBytes() {
        ThereAndBack x = Check.with("a += 1;");
        Check.type(x, "what was on the tape ahead of it");
        check.due("take() of the empty OUT", x.take(), 0);
        check.due("read(1) of nothing", x.read(1), 0);
        Check.type(x, "what was on the tape ahead of it");
        x.print(0);
        check.due("take()", x.take(), 7);
        check.due("type behind it", x.type(32, 1), 8);
        check.due("out(0): THE OUT is not changed", x.out(0), 'a');
        check.due("read(1)", x.read(1), 1);
        check.due("same(0, 1)", x.same(0, 1), 1);
        check.due("take() once more", x.take(), 7);
    }

    /** Promise 9: "FULL: more than 600." */
    private static void takeFull() {
        ThereAndBack x = new ThereAndBack();
        for (int bytes = 598; bytes <= 602; bytes++) {
            String number = "1".repeat(bytes - "a += ;".length() - 147 * " + 1".length());
            Check.read(x, 0, "a+=" + number + "+1".repeat(147) + ";");
            check.due("print(0)", x.print(0), bytes);
            Check.type(x, "b += 1;");
            check.due("take() of " + bytes, x.take(), bytes <= 600 ? bytes : FULL);
            check.due("type behind it", x.type(32, 1), bytes < 600 ? bytes + 1 : bytes == 600 ? FULL : 8);
            check.due("read(1)", x.read(1), 1);
            check.due("same(0, 1)", x.same(0, 1), bytes <= 600 ? 1 : 0);
        }
    }

    /** Promise 10: "Whether two ROUTINES would be PRINTED alike: 1, 0." */
    private static void sameTexts() {
        dueSame("", "   ", 1);
        dueSame("", "a += 1;", 0);
        dueSame("a += 1;", "a+=01;", 1);
        dueSame("a += 0;", "a += 000000000;", 1);
        dueSame("a += 1;", "a += 2;", 0);
        dueSame("a += 1;", "a += 1; a += 1;", 0);
        dueSame("a += b;", "a += (b);", 0);
        dueSame("a += b;", "a += c;", 0);
        dueSame("a += 1;", "b += 1;", 0);
        dueSame("let a = 1;", "unlet a = 1;", 0);
        dueSame("a += 1;", "a -= 1;", 0);
        dueSame("new A int 1;", "new A long 1;", 0);
        dueSame("a += b - -c;", "a+=b--c;", 1);
        dueSame("if a { } else { a += 1; } fi a;", "if a { a += 1; } else { } fi a;", 0);
        dueSame("when a { } else { };", "when a{}else{};", 1);
    }

    private static void dueSame(String a, String b, int want) {
        ThereAndBack x = Check.with(a);
        Check.read(x, 9, b);
        check.due("same(0, 9) of " + a + " and " + b, x.same(0, 9), want);
        check.due("same(9, 0)", x.same(9, 0), want);
        check.due("same(0, 0)", x.same(0, 0), 1);
        check.due("out(0): nothing was PRINTED", x.out(0), BAD);
    }

    /** Promise 10: "BAD; NOT." */
    private static void sameRefused() {
        ThereAndBack x = Check.with("a += 1;");
        check.dueEach("same(0, r)", r -> x.same(0, r), BAD, Check.outside(9));
        check.dueEach("same(r, 0)", r -> x.same(r, 0), BAD, Check.outside(9));
        check.dueEach("same(1, r), BAD ahead of NOT", r -> x.same(1, r), BAD, Check.outside(9));
        check.dueEach("same(r, 1), BAD ahead of NOT", r -> x.same(r, 1), BAD, Check.outside(9));
        check.dueEach("same(0, r)", r -> x.same(0, r), NOT, 1, 9);
        check.dueEach("same(r, 0)", r -> x.same(r, 0), NOT, 1, 9);
        check.due("same(1, 1) of none both", x.same(1, 1), NOT);
    }
}

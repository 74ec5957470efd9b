/** Promises 2 to 10: type, read, fault, drop, told, print, out, take, same. */
final class TextsTest {
    private static final Check check = new Check();
    private static final int BAD = ThereAndBack.BAD, NOT = ThereAndBack.NOT, FULL = ThereAndBack.FULL;

    public static void main(String[] args) {
        typing();
        reading();
        standing();
        nesting();
        nestingInPlaces();
        standingInItself();
        tooLong();
        calling();
        mixing();
        dropping();
        telling();
        printing();
        taking();
        comparing();
        check.end();
    }

    private static void typing() {
        ThereAndBack x = new ThereAndBack();
        check.due("type(w, 0)", x.type(65, 0), BAD);
        check.due("type(w, 9)", x.type(65, 9), BAD);
        check.due("type(w, -1)", x.type(65, -1), BAD);
        check.due("type(31, 1)", x.type(31, 1), BAD);
        check.due("type(127, 1)", x.type(127, 1), BAD);
        check.due("type(-1, 8)", x.type(-1, 8), BAD);
        check.due("type of a zero byte", x.type(65, 2), BAD);
        check.due("type(32, 1)", x.type(32, 1), 1);
        check.due("type(126, 1)", x.type(126, 1), 2);
        check.due("higher bytes do not count", x.type(-256L | 'a', 1), 3);
        check.due("read of ' ~a'", x.read(0), -11);
        check.due("the ~ can't stand", x.fault(1), 1);

        // The highest byte first: "a<>b" by one call, and ";" by another.
        x.type('a' << 24 | '<' << 16 | '>' << 8 | 'b', 4);
        x.type(';', 1);
        check.due("read of a<>b;", x.read(0), 1);
        check.dueText("print(0)", Check.printed(x, 0), "a <> b;");

        for (int i = 0; i < 74; i++) x.type(0x2020202020202020L, 8);
        check.due("up to 599", x.type(0x20202020202020L, 7), 599);
        check.due("601 bytes", x.type(0x2020, 2), FULL);
        check.due("a wrong byte is told first", x.type(0x1F20, 2), BAD);
        check.due("600 bytes", x.type(';', 1), 600);
        check.due("one more", x.type(32, 1), FULL);
        check.due("read of 599 blanks and a ;", x.read(0), -11);
        check.due("its place", x.fault(1), 599);
        check.due("the tape is empty then", x.type(32, 1), 1);
    }

    private static void reading() {
        ThereAndBack x = new ThereAndBack();
        Check.type(x, "a += 1;");
        check.due("read(10)", x.read(10), BAD);
        check.due("read(-1)", x.read(-1), BAD);
        check.due("not emptied by BAD", x.read(9), 1);
        check.due("emptied by reading", x.read(8), 0);
        check.due("an empty text is one", x.told(8, 0), 0);
        check.due("blanks alone", Check.read(x, 7, "    "), 0);
        check.due("a fault", Check.read(x, 9, "a += ;"), -11);
        check.due("the text stays as it was", x.told(9, 0), 1);
        check.due("emptied by a fault", x.read(7), 0);
        check.due("fault(0) of the latest", x.fault(0), 0);
        check.due("fault(1) of the latest", x.fault(1), 0);
        Check.read(x, 7, "let a = a;");
        x.read(10);
        check.due("BAD is not the latest", x.fault(0), 3);
        check.due("fault(2)", x.fault(2), BAD);
        check.due("fault(-1)", x.fault(-1), BAD);

        check.due("no blanks", Check.read(x, 0, "newAint3;A[0]+=5;push aS;call7;"), 4);
        check.due("all steps", Check.read(x, 0, "let a = 1; unlet b = 2; c += 3; c -= 3; c ^= 3; c << 3; c >> 3; c <> d; "
            + "push e S; pop f T; new A int 1; end B long 2; new C short 3; new D byte 4; new E char 5; call 0; uncall 9; "
            + "if a { } else { } fi b; from a { } loop { } until b;"), 23);
        check.due("all ordinary steps", Check.read(x, 0, "set a = 1; while a { set a = 0; }; when a { } else { };"), 7);
        check.due("all signs", Check.read(x, 0, "a += b + c - d ^ e | f * g / h % i & #A - -1 + (b < c) - (b = c) + (b) + A[B[0]];"), 1);
    }

    private static void standing() {
        check.dueFault("x", 1, 1);
        check.dueFault("x  ", 1, 3);
        check.dueFault("foo += 1;", 1, 0);
        check.dueFault("ab += 1;", 1, 0);
        check.dueFault("a += ab;", 1, 5);
        check.dueFault("az += 1;", 1, 0);
        check.dueFault("za += 1;", 1, 0);
        check.dueFault("a +=", 1, 4);
        check.dueFault("a +", 1, 2);
        check.dueFault("a += if;", 1, 5);
        check.dueFault("G[0] += 1;", 1, 0);
        check.dueFault("A += 1;", 1, 2);
        check.dueFault("A[0 += 1;", 1, 4);
        check.dueFault("a + = 1;", 1, 2);
        check.dueFault("a < > b;", 1, 2);
        check.dueFault("a <> 1;", 1, 5);
        check.dueFault("1 += a;", 1, 0);
        check.dueFault("let A = 1;", 1, 4);
        check.dueFault("let a += 1;", 1, 6);
        check.dueFault("push a S 1;", 1, 9);
        check.dueFault("push a R;", 1, 7);
        check.dueFault("push A S;", 1, 5);
        check.dueFault("new A 1;", 1, 6);
        check.dueFault("new A int;", 1, 9);
        check.dueFault("call;", 1, 4);
        check.dueFault("call a;", 1, 5);
        check.dueFault("a += 12 34;", 1, 8);
        check.dueFault("a += 1234567890;", 1, 14);
        check.dueFault("a += #a;", 1, 6);
        check.dueFault("a += A;", 1, 6);
        check.dueFault("a += (b < c < d);", 1, 12);
        check.dueFault("a += b < c;", 1, 7);
        check.dueFault("a += (b << c);", 1, 8);
        check.dueFault("a += ();", 1, 6);
        check.dueFault("a += b c;", 1, 7);
        check.dueFault("a += b", 1, 6);
        check.dueFault("a += 1;}", 1, 7);
        check.dueFault("if a { b += 1;", 1, 14);
        check.dueFault("if a { } fi b;", 1, 9);
        check.dueFault("if a { } else { } until b;", 1, 18);
        check.dueFault("from a { } else { } until b;", 1, 11);
        check.dueFault("from a { } loop { } fi b;", 1, 20);
        check.dueFault("while a { } else { };", 1, 12);
        check.dueFault("while a { }", 1, 11);
        check.dueFault("when a { };", 1, 10);
        check.dueFault("else;", 1, 0);
        check.dueFault("int += 1;", 1, 0);
        check.dueFault(";", 1, 0);
        check.dueFault("uncalls 1;", 1, 0);
    }

    private static void nesting() {
        ThereAndBack x = new ThereAndBack();
        check.due("five {", Check.read(x, 0, repeat("if a {", 5) + repeat("} else { } fi a;", 5)), 15);
        check.due("five { of from, in its second part", Check.read(x, 0, repeat("from a {}loop{", 5) + repeat("}until a;", 5)), 15);
        check.dueFault(repeat("if a {", 6), 2, 35);
        check.dueFault(repeat("while a {", 6), 2, 53);
        check.dueFault(repeat("when a {} else{", 5) + "when a {", 2, 82);
        check.due("eight -", Check.read(x, 0, "a += --------b;"), 1);
        check.dueFault("a += ---------b;", 2, 13);
        check.dueFault("a += b - ---------c;", 2, 17);
        check.dueFault("a += b * (((((((((c)))))))));", 2, 17);
        check.due("eight ( beside others", Check.read(x, 0, "a += -b + ((((((((b)))))))) - (b) * -c;"), 1);
        check.dueFault("a += (((((((((b)))))))));", 2, 13);
        check.dueFault("a += " + repeat("A[", 9) + "0" + repeat("]", 9) + ";", 2, 22);
        check.dueFault("a += -(A[-(A[-(-(b))])]);", 2, 15);
        check.dueFault("a += ((((((((b = (c)))))))));", 2, 17);
    }

    /** The [ of a P is not one of an F: what stands within it is within none yet. */
    private static void nestingInPlaces() {
        for (String sign : new String[] {"+=", "-=", "^=", "<<", ">>"}) dueEightWithin("A[", "] " + sign + " 1;");
        dueEightWithin("A[", "] <> b;");
        dueEightWithin("b <> A[", "];");
        dueEightWithin("B[0] <> A[", "];");
        // The brackets of one P are over where the other one begins, and where the E behind it does.
        dueEightWithin("A[" + repeat("(", 8) + "1" + repeat(")", 8) + "] <> B[", "];");
        dueEightWithin("A[" + repeat("-", 8) + "1] += ", ";");
        dueEightWithin("if a { A[", "] += 1; } else { } fi a;");

        // The eighth ( may stand, so that the first fault is another one further on.
        check.dueFault("A[" + repeat("(", 8) + "1)))))", 1, 16);
        check.dueFault("b <> A[" + repeat("(", 8) + "1)))))", 1, 21);
        check.dueFault("A[" + repeat("-", 8) + "]", 1, 10);
        check.dueFault("A[" + repeat("B[", 8) + ";", 1, 18);
        // The [ of a P itself stands within none.
        check.dueFault("A(", 1, 1);
        check.dueFault("b <> A(", 1, 6);
        check.dueFault("A[0;", 1, 3);
    }

    /** An E between head and tail: a bracket within seven others may stand there, one within eight is FAULT 2. */
    private static void dueEightWithin(String head, String tail) {
        dueDeepest(head, "(", "1", ")", tail);
        dueDeepest(head, "-", "1", "", tail);
        dueDeepest(head, "C[", "1", "]", tail);
        dueDeepest(head, "(b < ", "1", ")", tail);
        dueDeepest(head, "(", "1", " = b)", tail);
        dueDeepest(head, "2 * (#B + ", "1", ")", tail);
    }

    private static void dueDeepest(String head, String open, String middle, String close, String tail) {
        String eight = head + repeat(open, 8) + middle + repeat(close, 8) + tail;
        ThereAndBack x = new ThereAndBack();
        check.due("read of " + eight, Check.read(x, 0, eight) > 0 ? 1 : 0, 1);
        check.due("fault(0) of " + eight, x.fault(0), 0);
        for (String ninth : new String[] {"(", "-", "C["}) {
            int at = (head + repeat(open, 8) + ninth).length() - 1;
            check.dueFault(head + repeat(open, 8) + ninth + middle + repeat(close, 8) + tail, 2, at);
        }
    }

    private static void standingInItself() {
        check.dueFault("let a = a;", 3, 0);
        check.dueFault(" unlet a = 1 + A[a];", 3, 1);
        check.dueFault("b += 1; a += -(a);", 3, 8);
        check.dueFault("a -= a;", 3, 0);
        check.dueFault("a ^= a;", 3, 0);
        check.dueFault("a << a;", 3, 0);
        check.dueFault("a >> a;", 3, 0);
        check.dueFault("new A int #A;", 3, 0);
        check.dueFault("end A int A[0];", 3, 0);
        check.dueFault("if b { a += a; } else {", 3, 7);
        // Only when its ; was read.
        check.dueFault("let a = a", 1, 9);
        check.dueFault("let a = a }", 1, 10);
        ThereAndBack x = new ThereAndBack();
        check.due("an ITEM may be told in itself", Check.read(x, 0, "A[0] += A[0];"), 1);
        check.due("so may what is exchanged", Check.read(x, 0, "a <> a; a <> A[a];"), 2);
        check.due("and what is set", Check.read(x, 0, "set a = a;"), 1);
        check.due("the index is not changed", Check.read(x, 0, "A[a] += a;"), 1);
        check.due("another one", Check.read(x, 0, "new A int #B; let a = b;"), 2);
    }

    private static void tooLong() {
        ThereAndBack x = new ThereAndBack();
        check.due("40", Check.read(x, 0, repeat("a+=1;", 40)), 40);
        check.dueFault(repeat("a+=1;", 41), 4, 200);
        check.dueFault(repeat("a+=1;", 40) + "b+=b;", 3, 200);
        check.dueFault(repeat("a+=1;", 40) + "b+=1", 1, 204);
        check.due("37 and an if", Check.read(x, 0, repeat("a+=1;", 37) + "if a{}else{}fi a;"), 40);
        check.dueFault(repeat("a+=1;", 38) + "if a{}else{}fi a;", 4, 190);
        check.dueFault(repeat("a+=1;", 38) + "from a{}loop{}until a;", 4, 190);
        check.dueFault(repeat("set a=1;", 38) + "when a{}else{};", 4, 304);
        check.due("38 and a while", Check.read(x, 0, repeat("set a=1;", 38) + "while a{};"), 40);
        check.dueFault(repeat("set a=1;", 39) + "while a{};", 4, 312);
    }

    private static void calling() {
        ThereAndBack x = new ThereAndBack();
        check.due("call 009", Check.read(x, 0, "call 009;"), 1);
        check.dueText("print(0)", Check.printed(x, 0), "call 9;");
        check.dueFault("call 10;", 5, 5);
        check.dueFault("uncall 999999999", 5, 7);
        check.dueFault("call 10", 5, 5);
    }

    private static void mixing() {
        check.dueFault("a += 1; set a = 1;", 6, 8);
        check.dueFault("set a = 1; a += 1;", 6, 11);
        check.dueFault("set a = 1; A", 6, 11);
        check.dueFault("set a = 1; ab", 1, 11);
        check.dueFault("set a = 1; G", 1, 11);
        check.dueFault("while a { let", 6, 10);
        check.dueFault("if a { while", 6, 7);
        check.dueFault("set a = 1; call 10;", 6, 11);
        check.dueFault("let a = a; set", 3, 0);
    }

    private static void dropping() {
        ThereAndBack x = Check.with("a += 1; b += 1;");
        check.due("drop(-1)", x.drop(-1), BAD);
        check.due("drop(10)", x.drop(10), BAD);
        check.due("drop(1)", x.drop(1), NOT);
        check.due("drop(0)", x.drop(0), 2);
        check.due("drop(0) again", x.drop(0), NOT);
        check.due("told(0, 0)", x.told(0, 0), NOT);
        check.due("print(0)", x.print(0), NOT);
    }

    private static void telling() {
        ThereAndBack x = Check.with("if a { from b { z += 1; } loop { c <> d; } until c; } else { } fi d; push e S;");
        Check.read(x, 1, "when a { while b { set c = #A; }; } else { }; set d = 1;");
        check.due("told(0, 0)", x.told(0, 0), 9);
        check.due("told(0, 1)", x.told(0, 1), 2);
        check.due("told(0, 2)", x.told(0, 2), 0);
        check.due("told(0, 3)", x.told(0, 3), 2);
        check.due("told(0, 4)", x.told(0, 4), 31 | 1 << 25);
        check.due("told(1, 0)", x.told(1, 0), 7);
        check.due("told(1, 1)", x.told(1, 1), 2);
        check.due("told(1, 2)", x.told(1, 2), 1);
        check.due("told(1, 3)", x.told(1, 3), 2);
        check.due("told(1, 4)", x.told(1, 4), 15);
        check.due("told(0, 5)", x.told(0, 5), BAD);
        check.due("told(0, -1)", x.told(0, -1), BAD);
        check.due("told(10, 0)", x.told(10, 0), BAD);
        check.due("told(2, 5)", x.told(2, 5), BAD);
        check.due("told(2, 0)", x.told(2, 0), NOT);
        // Told anew each time a routine gets a text.
        for (int n = 0; n < 15; n++) {
            Check.read(x, n % 3, "a += 1; if a { if a { } else { } fi a; } else { } fi a;");
            check.due("told(.., 1)", x.told(n % 3, 1), 2);
            check.due("told(.., 3)", x.told(n % 3, 3), 2);
            Check.read(x, n % 3, "if b { } else { } fi b;");
            check.due("told(.., 0)", x.told(n % 3, 0), 3);
            check.due("told(.., 1)", x.told(n % 3, 1), 1);
            check.due("told(.., 3)", x.told(n % 3, 3), 1);
            check.due("told(.., 4)", x.told(n % 3, 4), 2);
        }
        Check.read(x, 2, "");
        for (int what = 0; what < 5; what++) check.due("told(2, " + what + ") of an empty text", x.told(2, what), 0);
    }

    private static void printing() {
        duePrint("leta=5;".replace("let", "let "), "let a = 5;");
        duePrint("A [ 0 ]+=-b- -c*(  -1 )-#B;", "A[0] += -b - -c * (-1) - #B;");
        duePrint("a+=--(b<-c);", "a += --(b < -c);");
        duePrint("a+=(b=c)^007|000&1;", "a += (b = c) ^ 7 | 0 & 1;");
        duePrint("a+=((b));", "a += ((b));");
        duePrint("a+=#A-1;", "a += #A - 1;");
        duePrint("a+=A[0]-(b)-c;", "a += A[0] - (b) - c;");
        duePrint("A[((((((((1))))))))]+=1;", "A[((((((((1))))))))] += 1;");
        duePrint("A[ - - - - - - - -1 ]<>B[(-(-(-(-b))))-1];", "A[--------1] <> B[(-(-(-(-b)))) - 1];");
        duePrint("a<>A [B [C [D [E [F [A [B [C [0]]]]]]]]];", "a <> A[B[C[D[E[F[A[B[C[0]]]]]]]]];");
        duePrint("newAint-1;end B char 0;", "new A int -1; end B char 0;");
        duePrint("push aS;pop bV;call 3;uncall 4;", "push a S; pop b V; call 3; uncall 4;");
        duePrint("if-a{b<>c;}else{}fi(a);", "if -a { b <> c; } else { } fi (a);");
        duePrint("from a{}loop{b<<1;b>>2;b^=3;b-=4;}until-a;", "from a { } loop { b << 1; b >> 2; b ^= 3; b -= 4; } until -a;");
        duePrint("while a{set b=123456789;};when-a{}else{};", "while a { set b = 123456789; }; when -a { } else { };");
        duePrint("unlet a=1;new B long 2;new C short 3;new D byte 4;", "unlet a = 1; new B long 2; new C short 3; new D byte 4;");
        duePrint("", "");

        ThereAndBack x = Check.with("a += 1;");
        check.due("print(0)", x.print(0), 7);
        check.due("print(1)", x.print(1), NOT);
        check.due("print(10)", x.print(10), BAD);
        check.due("print(-1)", x.print(-1), BAD);
        check.due("out(0) stays", x.out(0), 'a');
        check.due("out(1)", x.out(1), ' ');
        check.due("out(6)", x.out(6), ';');
        check.due("out(7)", x.out(7), BAD);
        check.due("out(-1)", x.out(-1), BAD);
        check.due("out far", x.out(Integer.MAX_VALUE), BAD);
    }

    private static void taking() {
        ThereAndBack x = Check.with("a+=1;");
        Check.type(x, "junk");
        check.due("print(0)", x.print(0), 7);
        check.due("take()", x.take(), 7);
        check.due("the tape goes on", x.type('b', 1), 8);
        check.due("read(1)", x.read(1), -11);
        check.due("fault(1)", x.fault(1), 8);
        check.due("take() again", x.take(), 7);
        check.due("read(1)", x.read(1), 1);
        check.due("same(0, 1)", x.same(0, 1), 1);

        // Exactly 600 bytes, and around that: four for each sign and number, one for each digit more.
        Check.read(x, 4, "a+=1" + repeat("+1", 148) + "^1;");
        check.due("print(4)", x.print(4), 7 + 149 * 4);
        check.due("take() of 603", x.take(), FULL);
        Check.read(x, 4, "a+=10" + repeat("+1", 148) + ";");
        check.due("print(4)", x.print(4), 600);
        check.due("take() of 600", x.take(), 600);
        check.due("read(4)", x.read(4), 1);
        Check.read(x, 4, "a+=100" + repeat("+1", 148) + ";");
        check.due("print(4)", x.print(4), 601);
        check.due("take() of 601", x.take(), FULL);

        // 299 signs and numbers without blanks take 600 bytes, printed they take more.
        Check.read(x, 2, "a+=1" + repeat("+1", 297) + ";");
        check.due("print(2)", x.print(2), 7 + 297 * 4);
        Check.type(x, "b+=1;");
        check.due("take() of too much", x.take(), FULL);
        check.due("the tape stayed", x.read(3), 1);
        check.dueText("print(3)", Check.printed(x, 3), "b += 1;");
    }

    private static void comparing() {
        ThereAndBack x = Check.with("a+=007;");
        Check.read(x, 1, " a += 7 ;");
        Check.read(x, 2, "a += (7);");
        Check.read(x, 3, "a -= 7;");
        Check.read(x, 4, "");
        check.due("same(0, 1)", x.same(0, 1), 1);
        check.due("same(0, 0)", x.same(0, 0), 1);
        check.due("same(0, 2)", x.same(0, 2), 0);
        check.due("same(0, 3)", x.same(0, 3), 0);
        check.due("same(0, 4)", x.same(0, 4), 0);
        check.due("same(4, 4)", x.same(4, 4), 1);
        check.due("same(0, 5)", x.same(0, 5), NOT);
        check.due("same(5, 0)", x.same(5, 0), NOT);
        check.due("same(5, 10)", x.same(5, 10), BAD);
        check.due("same(-1, 0)", x.same(-1, 0), BAD);
    }

    private static void duePrint(String text, String want) {
        ThereAndBack x = Check.with(text);
        check.dueText("print of " + text, Check.printed(x, 0), want);
        check.due("print again of " + text, x.print(0), want.length());
    }

    private static String repeat(String part, int n) {
        return part.repeat(n);
    }
}

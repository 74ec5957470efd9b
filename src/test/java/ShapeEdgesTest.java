/** The edges of Terms 4, MIRRORS, and of promises 11 and 12. One method a sentence, which its remark names. */
final class ShapeEdgesTest {
    private static final Check check = new Check();
    private static final int BAD = ThereAndBack.BAD, NOT = ThereAndBack.NOT, FULL = ThereAndBack.FULL;

    public static void main(String[] args) {
        stepsTheOtherWayRound();
        stepsAsDoneBack();
        ifsMirrored();
        fromsMirrored();
        mirrorOfOneOrTheSame();
        mirrorRefused();
        blanksPrinted();
        minusPrinted();
        numbersPrinted();
        bracketsPrinted();
        setOfItselfAndATerm();
        setWithoutItself();
        setWithItself();
        whileTurned();
        whenTurned();
        countersTurned();
        deepestTurned();
        turnOfOneOrTheSame();
        turnRefused();
        turnOfTrailNames();
        turnFull();
        check.end();
    }

    /** Terms 4: "The MIRROR of a TEXT .. has its STEPS the other way round": of none, one, two, forty. */
    private static void stepsTheOtherWayRound() {
        dueMirror("", "");
        dueMirror("a += 1;", "a -= 1;");
        dueMirror("a += 1; b += 2;", "b -= 2; a -= 1;");
        StringBuilder steps = new StringBuilder();
        StringBuilder mirror = new StringBuilder();
        for (int n = 1; n <= 40; n++) {
            steps.append("a += ").append(n).append(n < 40 ? "; " : ";");
            mirror.append("a -= ").append(41 - n).append(n < 40 ? "; " : ";");
        }
        dueMirror(steps.toString(), mirror.toString());
    }

    /** Terms 4: "each as it is DONE BACK (uncall for call)", and twice as it was. */
    private static void stepsAsDoneBack() {
        dueMirror("let a = b + 1;", "unlet a = b + 1;");
        dueMirror("a += b - -c;", "a -= b - -c;");
        dueMirror("A[b - 1] += c;", "A[b - 1] -= c;");
        dueMirror("a ^= b ^ c;", "a ^= b ^ c;");
        dueMirror("A[0] << b;", "A[0] >> b;");
        dueMirror("a <> B[c];", "a <> B[c];");
        dueMirror("B[c] <> a;", "B[c] <> a;");
        dueMirror("push a V;", "pop a V;");
        dueMirror("new F char 12;", "end F char 12;");
        dueMirror("call 9;", "uncall 9;");
    }

    /** Terms 4: "if E1 { A } else { B } fi E2: if E2 { MIRROR of A } else { MIRROR of B } fi E1". */
    private static void ifsMirrored() {
        dueMirror("if a { } else { } fi b;", "if b { } else { } fi a;");
        dueMirror("if a { c += 1; d += 2; } else { } fi b;", "if b { d -= 2; c -= 1; } else { } fi a;");
        dueMirror("if a { } else { c += 1; d += 2; } fi b;", "if b { } else { d -= 2; c -= 1; } fi a;");
        dueMirror(nested("if a { ", " } else { } fi b;"), nested("if b { ", " } else { } fi a;"));
        dueMirror(nested("if a { } else { ", " } fi b;"), nested("if b { } else { ", " } fi a;"));
    }

    /** Terms 4: "from E1 { A } loop { B } until E2: from E2 { MIRROR of A } loop { MIRROR of B } until E1." */
    private static void fromsMirrored() {
        dueMirror("from a { } loop { } until b;", "from b { } loop { } until a;");
        dueMirror("from a { c += 1; d += 2; } loop { } until b;", "from b { d -= 2; c -= 1; } loop { } until a;");
        dueMirror("from a { } loop { c += 1; d += 2; } until b;", "from b { } loop { d -= 2; c -= 1; } until a;");
        dueMirror(nested("from a { ", " } loop { } until b;"), nested("from b { ", " } loop { } until a;"));
        dueMirror(nested("from a { } loop { ", " } until b;"), nested("from b { } loop { ", " } until a;"));
    }

    /** Five within one another, PRINTED: the innermost part is empty. */
    private static String nested(String head, String tail) {
        String text = head.strip() + tail;
        for (int n = 1; n < 5; n++) text = head + text + tail;
        return text;
    }

    private static void dueMirror(String text, String want) {
        ThereAndBack x = Check.with(text);
        int size = x.told(0, 0);
        check.due("mirror(0, 9) of " + text, x.mirror(0, 9), size);
        check.dueText("mirror of " + text, Check.printed(x, 9), want);
        check.due("mirror(9, 8)", x.mirror(9, 8), size);
        check.dueText("the mirror's mirror", Check.printed(x, 8), text);
        for (int what = 0; what <= 4; what++) check.due("told(9, " + what + ")", x.told(9, what), x.told(0, what));
    }

    /** Promise 11: "The MIRROR of a ROUTINE becomes the TEXT of one (or the same): INSTRUCTIONS." */
    private static void mirrorOfOneOrTheSame() {
        ThereAndBack x = Check.with("a += 1; b += 2;");
        Check.read(x, 5, "set a = 1;");
        check.due("mirror(0, 5), over an ORDINARY one", x.mirror(0, 5), 2);
        check.dueText("print(0): it stays", Check.printed(x, 0), "a += 1; b += 2;");
        check.due("mirror(0, 0)", x.mirror(0, 0), 2);
        check.due("same(0, 5)", x.same(0, 5), 1);
        check.due("mirror(0, 0) again", x.mirror(0, 0), 2);
        check.dueText("print(0)", Check.printed(x, 0), "a += 1; b += 2;");
        x.begin(0, false);
        check.due("mirror(0, 9)", x.mirror(0, 9), 2);
        check.due("at(0): no RUN", x.at(0), NOT);
        check.due("begin(9, false)", x.begin(9, false), 2);
    }

    /** Promise 11: "BAD; NOT: also it is ORDINARY." */
    private static void mirrorRefused() {
        ThereAndBack x = Check.with("a += 1;");
        Check.read(x, 1, "set a = 1;");
        x.begin(0, false);
        check.dueEach("mirror(0, r)", r -> x.mirror(0, r), BAD, Check.outside(9));
        check.dueEach("mirror(r, 0)", r -> x.mirror(r, 0), BAD, Check.outside(9));
        check.dueEach("mirror(2, r), BAD ahead of NOT", r -> x.mirror(2, r), BAD, Check.outside(9));
        check.dueEach("mirror(1, r), BAD ahead of NOT", r -> x.mirror(1, r), BAD, Check.outside(9));
        check.due("mirror(2, 0) of none", x.mirror(2, 0), NOT);
        check.due("mirror(1, 0) of an ORDINARY one", x.mirror(1, 0), NOT);
        check.due("mirror(1, 1)", x.mirror(1, 1), NOT);
        check.due("at(0): the RUN stays", x.at(0), 0);
        check.dueText("print(0): it stays", Check.printed(x, 0), "a += 1;");
        check.due("told(2, 0)", x.told(2, 0), NOT);
    }

    /** Terms 4: "TOKENS with one blank between two, but none ahead of ; ] and ), none behind [ ( # .., none ahead of [". */
    private static void blanksPrinted() {
        duePrinted("  push   a   S  ;  pop b T;", "push a S; pop b T;");
        duePrinted("A [ ( b ) ] += # C * ( d < e ) ;", "A[(b)] += #C * (d < e);");
        duePrinted("a+=B[C[0]]+(c=#D);", "a += B[C[0]] + (c = #D);");
        duePrinted("if a{}else{b<>c;}fi(d);", "if a { } else { b <> c; } fi (d);");
        duePrinted("from(a){}loop{}until A[0];", "from (a) { } loop { } until A[0];");
        duePrinted("new A int#B;end B long(c);", "new A int #B; end B long (c);");
        duePrinted("while(a){};when A[0]{}else{};", "while (a) { }; when A[0] { } else { };");
        duePrinted("a<<1;a>>1;a^=1;a-=1;", "a << 1; a >> 1; a ^= 1; a -= 1;");
    }

    /** Terms 4: "none behind .. a - of an F", but one behind a - between two T. */
    private static void minusPrinted() {
        duePrinted("a += - b;", "a += -b;");
        duePrinted("a += - - b;", "a += --b;");
        duePrinted("a += b-c;", "a += b - c;");
        duePrinted("a += b--c;", "a += b - -c;");
        duePrinted("a += b---c;", "a += b - --c;");
        duePrinted("a += 1-2;", "a += 1 - 2;");
        duePrinted("a += (b)-(c);", "a += (b) - (c);");
        duePrinted("a += A[-b]-A[c];", "a += A[-b] - A[c];");
        duePrinted("a += #A-#B;", "a += #A - #B;");
        duePrinted("a += b*-c;", "a += b * -c;");
        duePrinted("a += -(b-c);", "a += -(b - c);");
        duePrinted("a += (-b<-c)-(-b=-c);", "a += (-b < -c) - (-b = -c);");
        duePrinted("a += -#A - -A[0];", "a += -#A - -A[0];");
        duePrinted("let a=-b;unlet a=-1;A[-1]-=-b;", "let a = -b; unlet a = -1; A[-1] -= -b;");
        duePrinted("new A int-1;a<<-1;", "new A int -1; a << -1;");
        duePrinted("if-a{}else{}fi-b;", "if -a { } else { } fi -b;");
        duePrinted("set a=-b;while-a{};", "set a = -b; while -a { };");
    }

    /** Terms 4: "NUMBERS without 0s ahead". */
    private static void numbersPrinted() {
        duePrinted("a += 0;", "a += 0;");
        duePrinted("a += 000000000;", "a += 0;");
        duePrinted("a += 000000001;", "a += 1;");
        duePrinted("a += 10;", "a += 10;");
        duePrinted("a += 0010;", "a += 10;");
        duePrinted("a += 100000000;", "a += 100000000;");
        duePrinted("a += 099999999;", "a += 99999999;");
        duePrinted("a += 999999999;", "a += 999999999;");
        duePrinted("call 00;uncall 009;", "call 0; uncall 9;");
    }

    /** Terms 4: "just the ( ) that stand in the TEXT." */
    private static void bracketsPrinted() {
        duePrinted("a += b + c * d;", "a += b + c * d;");
        duePrinted("a += (b + c) * d;", "a += (b + c) * d;");
        duePrinted("a += b + (c * d);", "a += b + (c * d);");
        duePrinted("a += ((b));", "a += ((b));");
        duePrinted("a += ((((((((b))))))));", "a += ((((((((b))))))));");
    }

    private static void duePrinted(String text, String want) {
        ThereAndBack x = Check.with(text);
        check.dueText("print(0) of " + text, Check.printed(x, 0), want);
        check.due("take()", x.take(), want.length());
        check.due("read(1)", x.read(1), x.told(0, 0));
        check.due("same(0, 1)", x.same(0, 1), 1);
    }

    /** Terms 4: "set N = E: if E is N + T, N - T, N ^ T (just one such sign, N not in T): N += T (-=, ^=)". */
    private static void setOfItselfAndATerm() {
        dueTurned("set a = a + 1;", "a += 1;");
        dueTurned("set a = a - 1;", "a -= 1;");
        dueTurned("set a = a ^ 1;", "a ^= 1;");
        dueTurned("set a = a + b * c / d;", "a += b * c / d;");
        dueTurned("set a = a - -b;", "a -= -b;");
        dueTurned("set a = a - --b * -c;", "a -= --b * -c;");
        dueTurned("set a = a ^ (b + c - d ^ e | f);", "a ^= (b + c - d ^ e | f);");
        dueTurned("set a = a + A[b + c];", "a += A[b + c];");
        dueTurned("set a = a + #A;", "a += #A;");
        dueTurned("set a = a + (b < c + d);", "a += (b < c + d);");
        for (String e : new String[] {"a + b + c", "a - b - c", "a ^ b ^ c", "a + b | c", "a - b + c", "a | b"}) dueHelper(e);
        for (String e : new String[] {"a + #A - 1", "a + A[0] - b", "a + (b) - c", "a + b * c - d"}) dueHelper(e);
        for (String e : new String[] {"a + a", "a - (a)", "a ^ -a", "a + A[a]", "a + b * a", "a + (b < a)"}) dueHelper(e);
        for (String e : new String[] {"(a) + b", "-a + b", "a * b + c", "b + a", "A[a] + b", "a * b", "a & b"}) dueHelper(e);
    }

    /** Terms 4: "else, if N is not in E: push N V ; N += E ;". */
    private static void setWithoutItself() {
        for (String e : new String[] {"0", "b", "-b", "b + c", "b - c | d", "b * c", "#A", "A[b]", "(b = c)"}) {
            dueTurned("set a = " + e + ";", "push a V; a += " + e + ";");
        }
        dueTurned("set t = s;", "push t V; t += s;");
    }

    /** Terms 4: "else: let z = E ; N <> z ; push z V ; unlet z = 0 ;". */
    private static void setWithItself() {
        for (String e : new String[] {"a", "-a", "(a)", "A[a]", "b + A[B[a]]", "(a = 0)"}) dueHelper(e);
        dueTurned("set t = t;", "let z = t; t <> z; push z V; unlet z = 0;");
    }

    private static void dueHelper(String e) {
        dueTurned("set a = " + e + ";", "let z = " + e + "; a <> z; push z V; unlet z = 0;");
    }

    /** Terms 4: "while E { A }: let c = 0 ; from ( c = 0 ) { } loop { A TURNED, c += 1 ; } until ( E = 0 ) ; ..". */
    private static void whileTurned() {
        dueTurned("while a { };", "let y = 0; from (y = 0) { } loop { y += 1; } until (a = 0); push y V; unlet y = 0;");
        dueTurned("while a { set a = 0; set a = a - 1; };", "let y = 0; from (y = 0) { } loop { push a V; a += 0; a -= 1; y += 1; } "
            + "until (a = 0); push y V; unlet y = 0;");
        dueTurned("while ((((((((a)))))))) { };", "let y = 0; from (y = 0) { } loop { y += 1; } until (((((((((a)))))))) = 0); "
            + "push y V; unlet y = 0;");
    }

    /** Terms 4: "when E { A } else { B }: let c = ( E = 0 ) ; if ( c = 0 ) { A TURNED } else { B TURNED } fi ( c = 0 ) ; ..". */
    private static void whenTurned() {
        String tail = " fi (y = 0); push y V; unlet y = 0;";
        dueTurned("when a { } else { };", "let y = (a = 0); if (y = 0) { } else { }" + tail);
        dueTurned("when a { set b = 1; } else { };", "let y = (a = 0); if (y = 0) { push b V; b += 1; } else { }" + tail);
        dueTurned("when a { } else { set b = b - 1; };", "let y = (a = 0); if (y = 0) { } else { b -= 1; }" + tail);
        dueTurned("when --------a { } else { };", "let y = (--------a = 0); if (y = 0) { } else { }" + tail);
    }

    /** Terms 4: "c is y, x, w, v, u of a while or when within none, one, .. others". */
    private static void countersTurned() {
        String text = "";
        String want = "";
        for (char c = 'u'; c <= 'y'; c++) {
            text = text.isEmpty() ? "while a { };" : "while a { " + text + " };";
            want = "let " + c + " = 0; from (" + c + " = 0) { } loop { " + want + (want.isEmpty() ? "" : " ") + c
                + " += 1; } until (a = 0); push " + c + " V; unlet " + c + " = 0;";
        }
        dueTurned(text, want);
        dueTurned("while a { }; while a { };", ("let y = 0; from (y = 0) { } loop { y += 1; } until (a = 0); push y V; unlet y = 0; ")
            .repeat(2).strip());
        dueTurned("when a { } else { while b { }; };", "let y = (a = 0); if (y = 0) { } else { let x = 0; from (x = 0) { } "
            + "loop { x += 1; } until (b = 0); push x V; unlet x = 0; } fi (y = 0); push y V; unlet y = 0;");
    }

    /** Terms 4: "until ( E = 0 )", "let c = ( E = 0 )": one ( more around an E that is as deep as can be. */
    private static void deepestTurned() {
        String[] texts = {"while ((((((((a)))))))) { set a = a - 1; };", "while --------a { set a = a - --------1; };",
            "when ((((((((a)))))))) { set a = 0; } else { set a = 9; };"};
        for (String text : texts) {
            ThereAndBack x = Check.with(text);
            x.give(0, 3);
            x.turn(0, 1);
            x.begin(1, false);
            int goes = x.run(300);
            check.due("at(5) of turned " + text, x.at(5), Why.ENDED);
            check.due("value(0) of turned " + text, x.value(0), 0);
            check.due("run(-300) of turned " + text, x.run(-300), goes);
            check.due("value(0) again", x.value(0), 3);
            check.due("walk(0, 400) of " + text, x.walk(0, 400) > 0 ? 1 : 0, 1);
            check.due("value(0) walked", x.value(0), 0);
        }
    }

    private static void dueTurned(String text, String want) {
        ThereAndBack x = Check.with(text);
        int n = x.turn(0, 9);
        check.dueText("turned " + text, Check.printed(x, 9), want);
        check.due("told(9, 0) of " + text, x.told(9, 0), n);
        check.due("told(9, 2) of " + text, x.told(9, 2), 0);
        check.due("begin(9, false) of " + text, x.begin(9, false), n);
    }

    /** Promise 12: "A ROUTINE, TURNED, becomes the TEXT of one: INSTRUCTIONS." */
    private static void turnOfOneOrTheSame() {
        ThereAndBack x = Check.with("set a = 1; set b = b + 1;");
        check.due("turn(0, 9)", x.turn(0, 9), 3);
        check.due("told(0, 2): it stays", x.told(0, 2), 1);
        check.due("begin(9, false)", x.begin(9, false), 3);
        check.due("turn(0, 0)", x.turn(0, 0), 3);
        check.due("at(0): no RUN", x.at(0), NOT);
        check.due("same(0, 9)", x.same(0, 9), 1);
        check.due("turn(0, 0) again", x.turn(0, 0), NOT);
    }

    /** Promise 12: "BAD; NOT: no TEXT, it is not ORDINARY". */
    private static void turnRefused() {
        ThereAndBack x = Check.with("a += 1;");
        Check.read(x, 1, "set a = 1;");
        Check.read(x, 2, "");
        x.begin(0, false);
        check.dueEach("turn(1, r)", r -> x.turn(1, r), BAD, Check.outside(9));
        check.dueEach("turn(r, 1)", r -> x.turn(r, 1), BAD, Check.outside(9));
        check.dueEach("turn(0, r), BAD ahead of NOT", r -> x.turn(0, r), BAD, Check.outside(9));
        check.due("turn(3, 0) of none", x.turn(3, 0), NOT);
        check.due("turn(0, 1)", x.turn(0, 1), NOT);
        check.due("turn(2, 1) of no STEP", x.turn(2, 1), NOT);
        check.due("at(0): the RUN stays", x.at(0), 0);
        check.due("told(1, 2): it stays", x.told(1, 2), 1);
    }

    /** Promise 12: "NOT: .. or a NAME u .. z stands in it". */
    private static void turnOfTrailNames() {
        for (char n = 's'; n <= 'z'; n++) {
            String[] texts = {"set N = 1;", "set a = N;", "set a = b + A[N];", "while N { };", "when N { } else { };",
                "when a { } else { while b { set c = -N; }; };"};
            for (String text : texts) {
                ThereAndBack x = Check.with(text.replace('N', n));
                Check.read(x, 1, "a += 1;");
                boolean turned = x.turn(0, 1) > 0;
                check.due("turned with " + n + ": " + text, turned ? 1 : 0, n < 'u' ? 1 : 0);
                check.due("told(1, 4)", x.told(1, 4) == 1 ? 1 : 0, turned ? 0 : 1);
                check.due("turn(0, 1) again", Math.min(x.turn(0, 1), 1), turned ? 1 : NOT);
            }
        }
    }

    /** Promise 12: "FULL: more than 40." */
    private static void turnFull() {
        dueForty("set a=a*2;".repeat(9), 36);
        dueForty("set a=1;".repeat(18), 36);
        dueForty("set a=1;" + "set a=a+1;".repeat(33), 35);
        dueForty("while a{};".repeat(5), 35);
        dueForty("when a{}else{};".repeat(6), 36);
        dueForty("while a{when a{set a=a*2;}else{set a=1;};};when a{while a{};}else{};", 32);
        ThereAndBack x = Check.with("set y = 1;".repeat(30));
        check.due("turn(0, 0), NOT ahead of FULL", x.turn(0, 0), NOT);
        Check.read(x, 0, "set a = 1;".repeat(40));
        check.due("turn(0, 0) to 80", x.turn(0, 0), FULL);
        check.due("turn(0, 10), BAD ahead of FULL", x.turn(0, 10), BAD);
        check.due("told(0, 2): it stays", x.told(0, 2), 1);
    }

    /** With so many that it is turned to, and as many STEPS more as lead up to 39, 40, 41. */
    private static void dueForty(String text, int turned) {
        ThereAndBack x = Check.with("a += 1;");
        for (int want = 39; want <= 41; want++) {
            Check.read(x, 1, text + "set b=b+1;".repeat(want - turned));
            x.begin(0, false);
            check.due("turn(1, 9) to " + want + " of " + text, x.turn(1, 9), want <= 40 ? want : FULL);
            check.due("told(9, 0)", x.told(9, 0), Math.min(want, 40));
            check.due("at(0)", x.at(0), want <= 40 ? NOT : 0);
        }
    }
}

/** The edges of Terms 1, TEXTS: what TOKENS are, what may stand where. One method a sentence, which its remark names. */
final class TokenEdgesTest {
    private static final Check check = new Check();

    public static void main(String[] args) {
        textBytes();
        longestTokens();
        blanksBetween();
        words();
        numbers();
        capitalLetters();
        pairs();
        otherBytes();
        names();
        rows();
        stacks();
        keys();
        textsOfNoSteps();
        partsOfNoSteps();
        kinds();
        anyNumberOfTerms();
        factors();
        places();
        check.end();
    }

    /** Terms 1: "TEXTS are bytes 32 .. 126, 600 at most." */
    private static void textBytes() {
        check.dueRead(" ".repeat(600), 0);
        check.dueRead(" ".repeat(594) + "a+=1;", 1);
        check.dueRead(" ".repeat(595) + "a+=1;", 1);
        ThereAndBack x = new ThereAndBack();
        Check.type(x, " ".repeat(596));
        check.due("a text of 601 bytes", x.type(Check.word("a+=1;"), 5), ThereAndBack.FULL);
        check.due("the 596 stay", x.type(Check.word(";"), 1), 597);
        check.due("read(0)", x.read(0), -11);
        check.due("fault(1)", x.fault(1), 596);
        check.due("type(31, 1)", x.type(31, 1), ThereAndBack.BAD);
        check.due("type(32, 1)", x.type(32, 1), 1);
        check.due("type(126, 1)", x.type(126, 1), 2);
        check.due("type(127, 1)", x.type(127, 1), ThereAndBack.BAD);
        check.due("read(0)", x.read(0), -11);
        check.due("fault(1)", x.fault(1), 1);
    }

    /** Terms 1: "TOKENS, from the left, as long as can be". */
    private static void longestTokens() {
        check.dueFault("a<<<1;", 1, 3);
        check.dueFault("a<<>b;", 1, 3);
        check.dueFault("a<>>b;", 1, 3);
        check.dueFault("a>>>1;", 1, 3);
        check.dueFault("a>>>>1;", 1, 3);
        check.dueFault("a+==1;", 1, 3);
        check.dueFault("a++=1;", 1, 1);
        check.dueFault("a-=-=1;", 1, 3);
        check.dueRead("a-=-1;", 1);
        check.dueRead("let a=-1;", 1);
        check.dueRead("b+=(a<-1);", 1);
        check.dueFault("b += (a<<1);", 1, 7);
        check.dueFault("b += (a<>1);", 1, 7);
        check.dueFault("b += (a-=1);", 1, 7);
        check.dueFault("b += (a^=1);", 1, 7);
    }

    /** Terms 1: "bytes 32 between as may be": none, one, many; but not within a TOKEN. */
    private static void blanksBetween() {
        check.dueRead("new A int 1;", 1);
        check.dueRead("newAint1;", 1);
        check.dueRead("   new   A   int   1   ;   ", 1);
        check.dueRead("a+=b;b+=a;", 2);
        check.dueFault("ne w A int 1;", 1, 0);
        check.dueFault("new A int 1 2;", 1, 12);
        for (String pair : new String[] {"+=", "-=", "^=", "<>", "<<", ">>"}) {
            check.dueRead("a" + pair + "b;", 1);
            check.dueRead("a " + pair + " b;", 1);
            check.dueFault("a " + pair.charAt(0) + " " + pair.charAt(1) + " b;", 1, 2);
        }
    }

    /** Terms 1: "a WORD: small letters": up to the last of them, and no other byte. */
    private static void words() {
        check.dueFault("leta=1;", 1, 0);
        check.dueRead("let a=1;", 1);
        check.dueFault("pushaS;", 1, 0);
        check.dueFault("push aa S;", 1, 5);
        check.dueRead("push aS;", 1);
        check.dueRead("call1;", 1);
        check.dueFault("a1 += 1;", 1, 1);
        check.dueFault("a` += 1;", 1, 1);
        check.dueFault("a{ += 1;", 1, 1);
        check.dueFault("z".repeat(600), 1, 0);
    }

    /** Terms 1: "a NUMBER: digits, 9 at most (a tenth can't stand)". */
    private static void numbers() {
        new Scene(check, "let a = 99999999;").done().isName('a', 99999999);
        new Scene(check, "let a = 999999999;").done().isName('a', 999999999);
        new Scene(check, "let a = 000000001;").done().isName('a', 1);
        check.dueFault("let a = 9999999999;", 1, 17);
        check.dueFault("let a = 0000000001;", 1, 17);
        check.dueFault("let a = 0000000000;", 1, 17);
        check.dueFault("let a = 123456789 0;", 1, 18);
        check.dueFault("let a = 1234567890123456789;", 1, 17);
        check.dueFault("let a = A[1234567890];", 1, 19);
        check.dueFault("let a = b + 1234567890;", 1, 21);
        check.dueRead("call 000000009;", 1);
        check.dueFault("call 0000000009;", 1, 14);
        check.dueFault("let 1234567890", 1, 4);
        check.dueFault("let a = 1/2", 1, 11);
        check.dueFault("let a = 1:", 1, 9);
    }

    /** Terms 1: "a capital letter" is a TOKEN by itself, with another one or a WORD right behind it. */
    private static void capitalLetters() {
        check.dueRead("newAint#B;", 1);
        check.dueFault("new AB int 1;", 1, 5);
        check.dueFault("push aST;", 1, 7);
        check.dueFault("AA[0] += 1;", 1, 1);
        for (char c = 'G'; c <= 'Z'; c++) check.dueFault(c + "[0] += 1;", 1, 0);
        for (char c = 'G'; c <= 'Z'; c++) check.dueFault("a += " + c, 1, 5);
    }

    /** Terms 1: "one of += -= ^= <> << >>": other signs with a = are two TOKENS. */
    private static void pairs() {
        for (String sign : new String[] {"|", "*", "/", "%", "&", "<", ">", "="}) check.dueFault("a " + sign + "= 1;", 1, 2);
        check.dueFault("a >< b;", 1, 2);
        check.dueFault("a = 1;", 1, 2);
        check.dueFault("a =+ 1;", 1, 2);
        check.dueFault("a +", 1, 2);
        check.dueFault("a -", 1, 2);
        check.dueFault("a <", 1, 2);
        check.dueFault("a +=", 1, 4);
    }

    /** Terms 1: "any other byte" is a TOKEN: each byte by itself as a TEXT. */
    private static void otherBytes() {
        check.dueRead(" ", 0);
        for (char b = 33; b <= 126; b++) {
            boolean begins = b >= 'a' && b <= 'z' || b >= 'A' && b <= 'F';
            check.dueFault("" + b, 1, begins ? 1 : 0);
            if (b != ';') check.dueFault("a += 1" + b, 1, b >= '0' && b <= '9' || "+-^|*/%&".indexOf(b) >= 0 ? 7 : 6);
        }
    }

    /** Terms 1: "A NAME N is a WORD of one letter (a .. z are 0 .. 25)". */
    private static void names() {
        for (char n = 'a'; n <= 'z'; n++) {
            Scene scene = new Scene(check, "let " + n + " = 5;").done().isName(n, 5);
            check.due("told(0, 4) of " + n, scene.x.told(0, 4), 1 << n - 'a');
            check.dueFault("let " + n + n + " = 5;", 1, 4);
        }
        check.dueFault("let ` = 5;", 1, 4);
        check.dueFault("let { = 5;", 1, 4);
        check.dueFault("let A = 5;", 1, 4);
        check.dueFault("let Z = 5;", 1, 4);
        check.dueFault("let = 5;", 1, 4);
        check.dueFault("let if = 5;", 1, 4);
    }

    /** Terms 1: "a ROW R is A .. F (0 .. 5)". */
    private static void rows() {
        for (char r = 'A'; r <= 'F'; r++) {
            new Scene(check, "new " + r + " int 2;").done().isRow(r, Why.INT, 0, 0);
            new Scene(check, r + "[1] += 4;").row(r, Why.LONG, 7, 8).done().isRow(r, Why.LONG, 7, 12);
            new Scene(check, "let a = #" + r + ";").row(r, Why.BYTE, 0, 0, 0).done().isName('a', 3);
        }
        for (char r : new char[] {'@', 'G', 'a', 'S'}) {
            check.dueFault("new " + r + " int 2;", 1, 4);
            check.dueFault("let b = #" + r + ";", 1, 9);
        }
        check.dueFault("@[0] += 1;", 1, 0);
        check.dueFault("a += @[0];", 1, 5);
        check.dueFault("a <> G[0];", 1, 5);
    }

    /** Terms 1: "a STACK S is S .. V (0 .. 3)". */
    private static void stacks() {
        for (char s = 'S'; s <= 'V'; s++) new Scene(check, "push a " + s + ";").name('a', 6).done().isStack(s, 6).isName('a', 0);
        for (char s : new char[] {'R', 'W', 's', 'A', '0'}) {
            check.dueFault("push a " + s + ";", 1, 7);
            check.dueFault("pop a " + s + ";", 1, 6);
        }
        check.dueFault("push S;", 1, 5);
        check.dueFault("push a;", 1, 6);
    }

    /** Terms 1: "KEYS stand here as they are": none with a letter less or more. */
    private static void keys() {
        String[] texts = {"", "let a = 1;", "", "unlet a = 1;", "", "push a S;", "", "pop a S;", "", "new A int 1;",
            "", "end A int 1;", "", "call 1;", "", "uncall 1;", "", "set a = 1;", "", "while a { };", "", "when a { } else { };",
            "when a { } ", "else { };", "if a { } ", "else { } fi a;", "if a { } else { } ", "fi a;",
            "", "from a { } loop { } until a;", "from a { } ", "loop { } until a;", "from a { } loop { } ", "until a;",
            "new A ", "int 1;", "new A ", "long 1;", "new A ", "short 1;", "new A ", "byte 1;", "new A ", "char 1;"};
        for (int i = 0; i < texts.length; i += 2) dueKey(texts[i], texts[i + 1]);
        check.dueFault("i a { } else { } fi a;", 1, 2);
        check.dueFault("iff a { } else { } fi a;", 1, 0);
        check.dueFault("Let a = 1;", 1, 0);
        check.dueFault("LET a = 1;", 1, 0);
        check.dueFault("new A INT 1;", 1, 6);
        check.dueFault("if a { } Else { } fi a;", 1, 9);
    }

    /** The KEY between both stands; with its last letter left out, or a letter more, it can't. */
    private static void dueKey(String ahead, String from) {
        int end = 0;
        while (Character.isLowerCase(from.charAt(end))) end++;
        check.due("faults of " + ahead + from, Check.read(new ThereAndBack(), 0, ahead + from) > 0 ? 0 : 1, 0);
        check.dueFault(ahead + from.substring(0, end - 1) + from.substring(end), 1, ahead.length());
        check.dueFault(ahead + from.substring(0, end) + "s" + from.substring(end), 1, ahead.length());
        check.dueFault(ahead + "s" + from, 1, ahead.length());
    }

    /** Terms 1: "TEXT: STEP .. (none, too)." */
    private static void textsOfNoSteps() {
        ThereAndBack x = new ThereAndBack();
        check.due("told(0, 0) of none", x.told(0, 0), ThereAndBack.NOT);
        check.due("read(0) of no STEP", x.read(0), 0);
        for (int what = 0; what <= 4; what++) check.due("told(0, " + what + ")", x.told(0, what), 0);
        check.due("begin(0, false)", x.begin(0, false), 0);
        check.due("go(false)", x.go(false), -20 - Why.ENDED);
        check.due("go(true)", x.go(true), -20 - Why.ENDED);
        check.due("one STEP", Check.read(x, 0, "a += 1;"), 1);
        check.due("none again", Check.read(x, 0, "  "), 0);
        check.dueFault(";", 1, 0);
    }

    /** Terms 1: "{ STEP .. }": none, one, two in each of the parts. */
    private static void partsOfNoSteps() {
        String[] parts = {"{}", "{ b += 1; }", "{ b += 1; c -= 1; }"};
        String[] ordinary = {"{}", "{ set b = 1; }", "{ set b = 1; set c = 2; }"};
        for (int i = 0; i < 3; i++) {
            for (int j = 0; j < 3; j++) {
                check.dueRead("if a " + parts[i] + " else " + parts[j] + " fi a;", 3 + i + j);
                check.dueRead("from a " + parts[i] + " loop " + parts[j] + " until a;", 3 + i + j);
                check.dueRead("when a " + ordinary[i] + " else " + ordinary[j] + ";", 3 + i + j);
            }
            check.dueRead("while a " + ordinary[i] + ";", 2 + i);
        }
        check.dueFault("if a {;} else {} fi a;", 1, 6);
        check.dueFault("if a {{}} else {} fi a;", 1, 6);
    }

    /** Terms 1: "KIND: int long short byte char (KINDS 0 .. 4)." */
    private static void kinds() {
        for (int kind = 0; kind <= 4; kind++) {
            new Scene(check, "new C " + Why.KINDS[kind] + " 1;").done().isRow('C', kind, 0);
            new Scene(check, "end C " + Why.KINDS[kind] + " 1;").row('C', kind, 0).done().isNoRow('C');
        }
        for (String none : new String[] {"i", "boolean", "float", "0", "let", ";"}) check.dueFault("new C " + none + " 1;", 1, 6);
    }

    /** Terms 1: "E: T, and any number of + T, - T, ^ T, | T. T: F, and any number of * F, / F, % F, & F." */
    private static void anyNumberOfTerms() {
        String signs = "+-^|*/%&";
        int[] none = {1, 1, 1, 1, 1, 1, 1, 1};
        int[] one = {2, 0, 0, 1, 1, 1, 0, 1};
        int[] most = {298, -296, 0, 1, 1, 1, 0, 1};
        for (int i = 0; i < signs.length(); i++) {
            String more = signs.charAt(i) + "b";
            new Scene(check, "a+=b;").name('a', 0).name('b', 1).done().isName('a', none[i]);
            new Scene(check, "a+=b" + more + ";").name('a', 0).name('b', 1).done().isName('a', one[i]);
            new Scene(check, " a+=b" + more.repeat(297) + ";").name('a', 0).name('b', 1).done().isName('a', most[i]);
            check.dueFault("a+=b" + signs.charAt(i) + ";", 1, 5);
            if (signs.charAt(i) != '-') check.dueFault("a+=" + more + ";", 1, 3);
            if (signs.charAt(i) != '-') check.dueFault("a+=b+" + more + ";", 1, 5);
        }
    }

    /** Terms 1: "F: NUMBER, N, R [ E ], # R, - F, ( E ), ( E < E ), ( E = E )", each with a TOKEN less or more. */
    private static void factors() {
        String[] good = {"1", "b", "A[0]", "#A", "-b", "(b)", "(b < c)", "(b = c)"};
        for (String f : good) check.dueRead("a+=" + f + ";", 1);
        check.dueFault("a+=;", 1, 3);
        check.dueFault("a+=A;", 1, 4);
        check.dueFault("a+=A[];", 1, 5);
        check.dueFault("a+=A[0;", 1, 6);
        check.dueFault("a+=A[0]];", 1, 7);
        check.dueFault("a+=#;", 1, 4);
        check.dueFault("a+=#A[0];", 1, 5);
        check.dueFault("a+=-;", 1, 4);
        check.dueFault("a+=();", 1, 4);
        check.dueFault("a+=(b;", 1, 5);
        check.dueFault("a+=(b));", 1, 6);
        check.dueFault("a+=(b<);", 1, 6);
        check.dueFault("a+=(<b);", 1, 4);
        check.dueFault("a+=(b<c<d);", 1, 7);
        check.dueFault("a+=(b=c=d);", 1, 7);
        check.dueFault("a+=(b>c);", 1, 5);
        check.dueFault("a+=b<c;", 1, 4);
        check.dueFault("a+=b=c;", 1, 4);
    }

    /** Terms 1: "P: N or R [ E ]." */
    private static void places() {
        check.dueRead("a <> b; A[0] <> b; a <> B[0]; A[0] <> B[0];", 4);
        check.dueFault("A += 1;", 1, 2);
        check.dueFault("A[] += 1;", 1, 2);
        check.dueFault("a[0] += 1;", 1, 1);
        check.dueFault("#A += 1;", 1, 0);
        check.dueFault("(a) <> b;", 1, 0);
        check.dueFault("-a <> b;", 1, 0);
        check.dueFault("a <> (b);", 1, 5);
        check.dueFault("a <> -b;", 1, 5);
        check.dueFault("a <> b + c;", 1, 7);
        check.dueFault("a <> B;", 1, 6);
    }
}

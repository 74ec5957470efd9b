/** The edges of Terms 1, FAULTS. One method a sentence, which its remark names. */
final class FaultEdgesTest {
    private static final Check check = new Check();

    public static void main(String[] args) {
        firstByTokens();
        placeOfTheToken();
        placeOfTheEnd();
        bracesWithinFive();
        bracesBesideOthers();
        bracketsWithinEight();
        bracketsBesideOthers();
        whatIsNoBracketOfAFactor();
        standsInItsOwn();
        mayStandInItsOwn();
        onlyBehindItsEnd();
        moreThanForty();
        fortyWithParts();
        fortyBehindThree();
        callAboveNine();
        ordinaryBehindOthers();
        othersBehindOrdinary();
        mixedWhenItMayStand();
        ordinaryByTheFirst();
        check.end();
    }

    /** Terms 1: "FAULTS, the first that is met by TOKENS". */
    private static void firstByTokens() {
        check.dueFault("let a = a; call 10; +", 3, 0);
        check.dueFault("call 10; let a = a; +", 5, 5);
        check.dueFault("+ let a = a; call 10;", 1, 0);
        check.dueFault("b += 1; set a = ; call 10;", 6, 8);
        check.dueFault("a += ---------a;", 2, 13);
        check.dueFault("a += --------a;", 3, 0);
        check.dueFault("a += a + ---------b;", 2, 17);
        check.dueFault("if a { b += b; } else { call 10; } fi", 3, 7);
        check.dueFault("if a { call 10; b += b; } else { } fi", 5, 12);
        check.dueFault("call 1234567890;", 5, 5);
    }

    /** Terms 1: "its PLACE is where the TOKEN told begins". */
    private static void placeOfTheToken() {
        check.dueFault("foo", 1, 0);
        check.dueFault(" foo", 1, 1);
        check.dueFault(" ".repeat(597) + "foo", 1, 597);
        check.dueFault(" ".repeat(599) + ";", 1, 599);
        check.dueFault("a += <<;", 1, 5);
        check.dueFault("   let a = a;", 3, 3);
        check.dueFault("a += 1;   b += b;", 3, 10);
        check.dueFault("call   10;", 5, 7);
    }

    /** Terms 1: "1 a TOKEN can't stand there (the end: how many bytes)". */
    private static void placeOfTheEnd() {
        check.dueFault("a", 1, 1);
        check.dueFault("a ", 1, 2);
        check.dueFault("a += 1", 1, 6);
        check.dueFault("a += 1   ", 1, 9);
        check.dueFault("a += 1" + " ".repeat(593), 1, 599);
        check.dueFault("a += 1" + " ".repeat(594), 1, 600);
        check.dueFault(" ".repeat(596) + "a+=1", 1, 600);
        // As many TOKENS as bytes.
        check.dueFault("A[" + "1+".repeat(298) + "1", 1, 599);
        check.dueFault("A[" + "1+".repeat(299), 1, 600);
        check.dueFault("A[" + "1+".repeat(298) + "1}", 1, 599);
        check.dueFault("if a { ", 1, 7);
        check.dueFault("if a { } else { } fi a", 1, 22);
        check.dueRead("a += 1;", 1);
    }

    /** Terms 1: "2 a { within five others". */
    private static void bracesWithinFive() {
        dueDeepest("if a {", "} else { } fi a;", 3);
        dueDeepest("if a { } else {", "} fi a;", 3);
        dueDeepest("from a {", "} loop { } until a;", 3);
        dueDeepest("from a { } loop {", "} until a;", 3);
        dueDeepest("while a {", "};", 2);
        dueDeepest("when a {", "} else { };", 3);
        dueDeepest("when a { } else {", "};", 3);
    }

    /** Four and five of these may stand within one another, a sixth can't: its { is told. */
    private static void dueDeepest(String head, String tail, int instructions) {
        for (int n = 4; n <= 5; n++) {
            ThereAndBack x = new ThereAndBack();
            check.due(n + " of " + head, Check.read(x, 0, head.repeat(n) + tail.repeat(n)), n * instructions);
            check.due("told(0, 3) of " + n, x.told(0, 3), n);
        }
        check.dueFault(head.repeat(6) + tail.repeat(6), 2, head.repeat(5).length() + head.indexOf('{'));
    }

    /** Terms 1: "2 a { within five others": such as are closed are no others any more. */
    private static void bracesBesideOthers() {
        String five = "if a {".repeat(5) + "} else { } fi a;".repeat(5);
        check.dueRead(five + five, 30);
        check.dueRead("if a {".repeat(4) + "if a { } else { } fi a; if a { } else { } fi a;" + "} else { } fi a;".repeat(4), 18);
        check.dueFault(five + "if a {".repeat(6), 2, five.length() + 35);
        check.dueFault("if a {".repeat(5) + "} else { if a {", 2, 44);
    }

    /** Terms 1: "2 .. a ( or [ or - of an F within eight others of these". */
    private static void bracketsWithinEight() {
        String[] heads = {"a += ", "let a = ", "unlet a = ", "new A int ", "end A int ", "A[0] << ", "A[", "b <> A["};
        String[] tails = {";", ";", ";", ";", ";", ";", "] += 1;", "];"};
        for (int i = 0; i < heads.length; i++) {
            dueEight(heads[i], "(", ")", tails[i]);
            dueEight(heads[i], "-", "", tails[i]);
            dueEight(heads[i], "D[", "]", tails[i]);
        }
        dueEight("if ", "(", ")", " { } else { } fi a;");
        dueEight("if a { } else { } fi ", "-", "", ";");
        dueEight("from ", "D[", "]", " { } loop { } until a;");
        dueEight("from a { } loop { } until ", "(", ")", ";");
        dueEight("set a = ", "-", "", ";");
        dueEight("while ", "(", ")", " { };");
        dueEight("when ", "D[", "]", " { } else { };");
    }

    /** Seven and eight within one another may stand, a ninth of any of the three can't. */
    private static void dueEight(String head, String open, String close, String tail) {
        for (int n = 7; n <= 8; n++) {
            String text = head + open.repeat(n) + "c" + close.repeat(n) + tail;
            check.due("faults of " + text, Check.read(new ThereAndBack(), 0, text) > 0 ? 0 : 1, 0);
        }
        int place = (head + open.repeat(8)).length();
        check.dueFault(head + open.repeat(8) + "(c)" + close.repeat(8) + tail, 2, place);
        check.dueFault(head + open.repeat(8) + "-c" + close.repeat(8) + tail, 2, place);
        check.dueFault(head + open.repeat(8) + "D[c]" + close.repeat(8) + tail, 2, place + 1);
    }

    /** Terms 1: "2 .. within eight others of these": such as are closed are no others any more. */
    private static void bracketsBesideOthers() {
        String eight = "((((((((c))))))))";
        check.dueRead("a += " + eight + " + " + eight + " * " + eight + ";", 1);
        check.dueRead("a += --------c - --------c;", 1);
        check.dueRead("a += (" + "-------c - -------c < -------c);", 1);
        check.dueRead("a += -------(c) + -------D[c];", 1);
        check.dueFault("a += -------(c + (d));", 2, 17);
        check.dueFault("a += " + eight + " + (" + eight + ");", 2, 33);
        check.dueFault("a += ((((((((c < (d)))))))));", 2, 17);
        check.dueFault("a += ((((((((c = -d))))))));", 2, 17);
    }

    /** Terms 1: "( or [ or - of an F": not the - between two T, not the #, not the [ of a P. */
    private static void whatIsNoBracketOfAFactor() {
        check.dueRead("a += ((((((((c - d))))))));", 1);
        check.dueRead("a += ((((((((c - d - e))))))));", 1);
        check.dueFault("a += ((((((((c - -d))))))));", 2, 17);
        check.dueRead("a += ((((((((#C))))))));", 1);
        check.dueRead("A[((((((((c))))))))] -= --------c;", 1);
        check.dueRead("A[--------c] <> B[((((((((c))))))))];", 1);
        check.dueFault("A[((((((((c))))))))] -= ---------c;", 2, 32);
    }

    /** Terms 1: "3 .. the N, or R, of let, unlet, new, end, or the N that is the first P .., stands in the E of that STEP." */
    private static void standsInItsOwn() {
        String[] heads = {"let a = ", "unlet a = ", "a += ", "a -= ", "a ^= ", "a << ", "a >> "};
        for (String head : heads) {
            for (String e : new String[] {"a", "(a)", "-a", "B[a]", "b + a", "b * a", "(b < a)", "#A + C[B[a]]"}) {
                check.dueFault(head + e + ";", 3, 0);
                check.dueFault("b += 1; " + head + e + ";", 3, 8);
                check.dueRead(head + e.replace('a', 'z') + ";", 1);
            }
        }
        for (String head : new String[] {"new A int ", "end A int "}) {
            for (String e : new String[] {"#A", "A[0]", "B[A[0]]", "b + #A", "-(#A)"}) {
                check.dueFault(head + e + ";", 3, 0);
                check.dueRead(head + e.replace('A', 'F') + ";", 1);
            }
        }
        check.dueFault("if b { } else { let a = a; } fi b;", 3, 16);
    }

    /** Terms 1: "3 .. stands in the E of that STEP": not in a [ ] of its P, not as another sort, not in another STEP. */
    private static void mayStandInItsOwn() {
        check.dueRead("A[a] += a;", 1);
        check.dueRead("A[0] += A[0];", 1);
        check.dueRead("A[A[0]] << #A;", 1);
        check.dueRead("a <> a;", 1);
        check.dueRead("a <> A[a];", 1);
        check.dueRead("let a = #A; new A int a;", 2);
        check.dueRead("let a = b; let b = a;", 2);
        check.dueRead("if a { a += 1; } else { } fi a;", 4);
        check.dueRead("set a = a;", 1);
    }

    /** Terms 1: "3 (at the STEP's first TOKEN, when its ; was read)". */
    private static void onlyBehindItsEnd() {
        check.dueFault("let a = a", 1, 9);
        check.dueFault("let a = a}", 1, 9);
        check.dueFault("let a = a + ;", 1, 12);
        check.dueFault("a += a b;", 1, 7);
        check.dueFault("new A int #A #", 1, 13);
        check.dueFault("let a = a;", 3, 0);
    }

    /** Terms 1: "4 (likewise, behind 3) the TEXT has more than 40 INSTRUCTIONS by that STEP: one for each STEP". */
    private static void moreThanForty() {
        check.dueRead("a+=1;".repeat(39), 39);
        check.dueRead("a+=1;".repeat(40), 40);
        check.dueFault("a+=1;".repeat(41), 4, 200);
        check.dueFault("a+=1;".repeat(42), 4, 200);
        check.dueRead("set a=1;".repeat(40), 40);
        check.dueFault("set a=1;".repeat(41), 4, 320);
        String all = "let a=1;unlet a=1;b-=1;b^=1;b<<1;b>>1;a<>b;push a S;pop a S;new A int 1;end A int 1;call 1;uncall 1;";
        check.dueRead(all.repeat(3) + "b+=1;", 40);
        check.dueFault(all.repeat(3) + "b+=1; b+=1;", 4, all.length() * 3 + 6);
    }

    /** Terms 1: "4 .. two more for if, from, when, one more for while." */
    private static void fortyWithParts() {
        dueForty("a+=1;", "if a{}else{}fi a;", 3);
        dueForty("a+=1;", "from a{}loop{}until a;", 3);
        dueForty("set a=1;", "when a{}else{};", 3);
        dueForty("set a=1;", "while a{};", 2);
        check.dueRead("if a{" + "b+=1;".repeat(37) + "}else{}fi a;", 40);
        check.dueFault("if a{" + "b+=1;".repeat(38) + "}else{}fi a;", 4, 0);
        check.dueRead("from a{" + "b+=1;".repeat(20) + "}loop{" + "b-=1;".repeat(17) + "}until a;", 40);
        check.dueFault("from a{" + "b+=1;".repeat(20) + "}loop{" + "b-=1;".repeat(18) + "}until a;", 4, 0);
        check.dueRead("while a{" + "set b=1;".repeat(38) + "};", 40);
        check.dueFault("while a{" + "set b=1;".repeat(39) + "};", 4, 0);
        check.dueFault("if a{" + "b+=1;".repeat(37) + "}else{}fi a; b+=1;", 4, 203);
    }

    /** One STEP less, just 40, one too many, with the long STEP as the last one and as the first. */
    private static void dueForty(String step, String big, int size) {
        check.dueRead(step.repeat(39 - size) + big, 39);
        check.dueRead(step.repeat(40 - size) + big, 40);
        check.dueFault(step.repeat(41 - size) + big, 4, step.length() * (41 - size));
        check.dueRead(big + step.repeat(40 - size), 40);
        check.dueFault(big + step.repeat(41 - size), 4, big.length() + step.length() * (40 - size));
    }

    /** Terms 1: "4 (likewise, behind 3)": at the first TOKEN, when its ; was read, and where 3 is not told. */
    private static void fortyBehindThree() {
        String forty = "a+=1;".repeat(40);
        check.dueFault(forty + "  b+=b;", 3, 202);
        check.dueFault(forty + "  b+=c;", 4, 202);
        check.dueFault(forty + "  b+=c", 1, 206);
        check.dueFault(forty + "  b+=---------b;", 2, 213);
        check.dueFault(forty + "call 10;", 5, 205);
        check.dueFault(forty + "set", 6, 200);
        check.dueFault(forty + "else", 1, 200);
    }

    /** Terms 1: "5 a NUMBER behind call, uncall is above 9." */
    private static void callAboveNine() {
        for (String key : new String[] {"call ", "uncall "}) {
            for (String good : new String[] {"0", "8", "9", "00", "09", "000000009"}) check.dueRead(key + good + ";", 1);
            for (String bad : new String[] {"10", "11", "90", "010", "999999999"}) {
                check.dueFault(key + bad + ";", 5, key.length());
                check.dueFault(key + bad, 5, key.length());
            }
            check.dueFault(key + "-1;", 1, key.length());
            check.dueFault(key + "9 9;", 1, key.length() + 2);
            check.dueFault(key + "9", 1, key.length() + 1);
        }
        check.dueRead("a += 10; call 9; A[10] += 10;", 3);
    }

    /** Terms 1: "6 .. a STEP is ORDINARY, the TEXT's first one was not". */
    private static void ordinaryBehindOthers() {
        String[] first = {"a += 1;", "A[0] <> a;", "let a = 1;", "call 1;", "if a { } else { } fi a;"};
        for (String step : first) {
            for (String key : new String[] {"set", "while", "when"}) check.dueFault(step + key, 6, step.length());
            check.dueRead(step + "b += 1;", step.startsWith("if") ? 4 : 2);
        }
        check.dueFault("if a { set", 6, 7);
        check.dueFault("if a { } else { while", 6, 16);
        check.dueFault("from a { } loop { when", 6, 18);
    }

    /** Terms 1: "6 .. or the other way round." */
    private static void othersBehindOrdinary() {
        String[] keys = {"let", "unlet", "push", "pop", "new", "end", "call", "uncall", "if", "from", "a", "F"};
        for (String key : keys) {
            check.dueFault("set a = 1; " + key, 6, 11);
            check.dueFault("while a { " + key, 6, 10);
            check.dueFault("when a { } else { " + key, 6, 18);
        }
        check.dueRead("set a = 1; while a { when a { set b = 1; } else { }; };", 7);
    }

    /** Terms 1: "6 (at the STEP's first TOKEN, when that was read; of P: when it may stand)". */
    private static void mixedWhenItMayStand() {
        for (String p : new String[] {"a", "z", "A", "F"}) check.dueFault("set a = 1;" + p + " ;", 6, 10);
        for (String p : new String[] {"ab", "G", "S", "5", "-", "(", ";", "else", "int"}) check.dueFault("set a = 1;" + p + " ;", 1, 10);
        check.dueFault("set a = 1; call 10;", 6, 11);
        check.dueFault("set a = 1; let b = b;", 6, 11);
        check.dueFault("let a = a; set", 3, 0);
    }

    /** Terms 1: "an ORDINARY one's first STEP is ORDINARY": of none, it is not. */
    private static void ordinaryByTheFirst() {
        ThereAndBack x = Check.with("");
        check.due("told(0, 2) of no STEP", x.told(0, 2), 0);
        check.due("walk(0, 1) of no STEP", x.walk(0, 1), ThereAndBack.NOT);
        check.due("mirror(0, 1) of no STEP", x.mirror(0, 1), 0);
        for (String text : new String[] {"set a = 1;", "while a { };", "when a { } else { };"}) {
            Check.read(x, 0, text);
            check.due("told(0, 2) of " + text, x.told(0, 2), 1);
            check.due("begin(0, false) of " + text, x.begin(0, false), ThereAndBack.NOT);
        }
        Check.read(x, 0, "a += 1;");
        check.due("told(0, 2) of a += 1;", x.told(0, 2), 0);
        check.due("begin(0, false)", x.begin(0, false), 1);
    }
}

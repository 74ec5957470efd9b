/** What each STEP does forward and back, and what refuses it, in order (Terms 2, by promises 23, 24, 26). */
final class StepsTest {
    private static final Check check = new Check();
    private static final int ABSENT = 1, MISSING = 2, OUTSIDE = 3, ZERO = 4, EMPTY = 5, SELF = 6, SIZE = 7, VALUE = 8;
    private static final int FULL = 9, KIND = 10, ENDED = 12, THERE = 14;

    public static void main(String[] args) {
        done();
        rotated();
        letsAndUnlets();
        changes();
        exchanges();
        deepPlaces();
        piles();
        rows();
        evaluations();
        check.end();
    }

    /** a is 3, b is 0, c is -2; A is of ints 5, 0, 2; B is A itself; C is of bytes 1, 2; D of chars 65535; no others. */
    private static ThereAndBack ready(String text) {
        ThereAndBack x = Check.with(text);
        x.give(0, 3);
        x.give(1, 0);
        x.give(2, -2);
        x.lay(0, 0, 3);
        x.set(0, 0, 0, 5);
        x.set(0, 0, 2, 2);
        x.put(0, 0);
        x.put(0, 1);
        x.lay(1, 3, 2);
        x.set(1, 3, 0, 1);
        x.set(1, 3, 1, 2);
        x.put(1, 2);
        x.lay(2, 4, 1);
        x.set(2, 4, 0, -1);
        x.put(2, 3);
        return x;
    }

    /** One STEP forward: what refused it (0: nothing); and, if it was done, back to where it began. */
    private static ThereAndBack dueForward(String text, int why) {
        ThereAndBack x = ready(text);
        x.begin(0, false);
        return dueBothWays(x, text, why);
    }

    private static ThereAndBack dueBack(String text, int why) {
        ThereAndBack x = ready(text);
        x.begin(0, true);
        return dueBothWays(x, "back " + text, why);
    }

    private static ThereAndBack dueBothWays(ThereAndBack x, String told, int why) {
        long before = x.digest();
        check.due("go of " + told, x.go(false), why == 0 ? 1 : -20 - why);
        check.due("at(5) of " + told, x.at(5), why);
        if (why != 0) {
            check.due("digest, nothing done, of " + told, x.digest(), before);
        } else {
            check.due("at(1) of " + told, x.at(1), x.at(2) > 0 ? 1 : 0);
            long after = x.digest();
            check.due("go round of " + told, x.go(true), 1);
            check.due("digest behind go round of " + told, x.digest(), before);
            check.due("go again of " + told, x.go(false), 1);
            check.due("digest behind go again of " + told, x.digest(), after);
        }
        return x;
    }

    private static void done() {
        check.due("a += 4", dueForward("a += 4;", 0).value(0), 7);
        check.due("a += 4 back", dueBack("a += 4;", 0).value(0), -1);
        check.due("a -= 4", dueForward("a -= 4;", 0).value(0), -1);
        check.due("a -= 4 back", dueBack("a -= 4;", 0).value(0), 7);
        check.due("a ^= 6", dueForward("a ^= 6;", 0).value(0), 5);
        check.due("a ^= 6 back", dueBack("a ^= 6;", 0).value(0), 5);
        check.due("a += goes round", dueForward("a += 999999999 * 10;", 0).value(0), (int) (3 + 9999999990L));
        check.due("A[0] += 1", dueForward("A[0] += 1;", 0).item(1, 0), 6);
        check.due("C[1] += 127", dueForward("C[1] += 127;", 0).item(2, 1), -127);
        check.due("C[1] -= 131", dueForward("C[1] -= 131;", 0).item(2, 1), 127);
        check.due("D[0] += 2", dueForward("D[0] += 2;", 0).item(3, 0), 1);
        check.due("D[0] ^= 1", dueForward("D[0] ^= 1;", 0).item(3, 0), 65534);
        check.due("let d", dueForward("let d = a * 999999999;", 0).value(3), (int) 2999999997L);
        check.due("let d back", dueBack("unlet d = 4;", 0).value(3), 4);
        check.due("unlet a", dueForward("unlet a = 3;", 0).has(0), 0);
        check.due("unlet a back", dueBack("let a = 3;", 0).has(0), 0);
        check.due("unlet a by an E cut to an int", dueForward("unlet a = 3 + 65536 * 65536;", 0).has(0), 0);
        check.due("a <> c", dueForward("a <> c;", 0).value(0), -2);
        check.due("a <> A[0]", dueForward("a <> A[0];", 0).item(0, 0), 3);
        check.due("A[0] <> a back", dueBack("A[0] <> a;", 0).value(0), 5);
        check.due("A[0] <> B[2]", dueForward("A[0] <> B[2];", 0).item(0, 2), 5);
        check.due("new E", dueForward("new E short a * 4;", 0).row(4, 1), 12);
        check.due("new E back", dueBack("end E long 0;", 0).row(4, 0), 1);
        check.due("push a T", dueForward("push a T;", 0).piled(1, 0), 3);
        check.due("push a T back", dueBack("pop a T;", 0).piled(1, 0), 3);
    }

    private static void rotated() {
        check.due("a << 31", dueForward("a << 31;", 0).value(0), 3 << 31 | 1);
        check.due("a << -1", dueForward("a << -1;", 0).value(0), 1 << 31 | 1);
        check.due("a << 33", dueForward("a << 33;", 0).value(0), 6);
        check.due("a << 32", dueForward("a << 32;", 0).value(0), 3);
        check.due("a >> 1", dueForward("a >> 1;", 0).value(0), 1 << 31 | 1);
        check.due("a >> 1 back", dueBack("a >> 1;", 0).value(0), 6);
        check.due("c >> -1", dueForward("c >> -1;", 0).value(2), -3);
        check.due("c << 1", dueForward("c << 1;", 0).value(2), -3);
        check.due("C[1] << 6", dueForward("C[1] << 6;", 0).item(2, 1), -128);
        check.due("C[1] << 7", dueForward("C[1] << 7;", 0).item(2, 1), 1);
        check.due("C[1] >> 2", dueForward("C[1] >> 2;", 0).item(2, 1), -128);
        check.due("A[2] << 30", dueForward("A[2] << 30;", 0).item(0, 2), Integer.MIN_VALUE);

        ThereAndBack x = Check.with("A[0] << 1; B[0] << 1; C[0] >> 1; A[0] >> 64; A[0] >> 2;");
        x.lay(0, 1, 1);
        x.set(0, 1, 0, Long.MIN_VALUE | 1);
        x.put(0, 0);
        x.lay(1, 2, 1);
        x.set(1, 2, 0, 0x8001);
        x.put(1, 1);
        x.lay(2, 4, 1);
        x.set(2, 4, 0, 0x8001);
        x.put(2, 2);
        x.begin(0, false);
        check.due("run(4)", x.run(4), 4);
        check.due("of a long", x.item(0, 0), 3);
        check.due("of a short", x.item(1, 0), 3);
        check.due("of a char", x.item(2, 0), 0xC000);
        x.go(false);
        check.due("of a long, to the right", x.item(0, 0), 0xC000000000000000L);
    }

    private static void letsAndUnlets() {
        dueForward("let a = 3;", THERE);
        dueForward("let a = e;", THERE);
        dueForward("let e = d;", ABSENT);
        dueForward("unlet d = 1;", ABSENT);
        dueForward("unlet d = 1 / 0;", ABSENT);
        dueForward("unlet a = e;", ABSENT);
        dueForward("unlet a = 1 / 0;", ZERO);
        dueForward("unlet a = 4;", VALUE);
        dueBack("let a = 4;", VALUE);
        dueBack("unlet a = 3;", THERE);
        dueBack("let d = 4;", ABSENT);
    }

    private static void changes() {
        dueForward("d += 1 / 0;", ABSENT);
        dueForward("a += d;", ABSENT);
        dueForward("E[0] += d;", MISSING);
        dueForward("E[d] += 1;", ABSENT);
        dueForward("A[3] += d;", OUTSIDE);
        dueForward("A[-1] += 1;", OUTSIDE);
        dueForward("A[65536 * 65536] += 1;", OUTSIDE);
        dueForward("A[A[2]] += d;", SELF);
        dueForward("A[B[2]] -= 1;", SELF);
        dueForward("A[A[0] - 4] += 1;", 0);
        dueForward("A[A[A[1]] * 0] += 1;", SELF);
        dueForward("A[0] += A[0] + d;", SELF);
        dueForward("A[0] += d + A[0];", ABSENT);
        dueForward("A[0] ^= B[0];", SELF);
        dueForward("A[0] << 1 + B[a - 3];", SELF);
        dueForward("A[0] >> C[B[0]];", SELF);
        dueForward("A[0] += A[1] + B[2] + C[0] + #A;", 0);
        dueForward("A[0] += A[9];", OUTSIDE);
        dueForward("A[a - 3] += a;", 0);
        dueBack("A[0] += A[0];", SELF);
        dueForward("C[0] += C[1];", 0);
    }

    private static void exchanges() {
        dueForward("d <> E[0];", ABSENT);
        dueForward("a <> d;", ABSENT);
        dueForward("E[0] <> d;", MISSING);
        dueForward("A[3] <> d;", OUTSIDE);
        dueForward("a <> A[d];", ABSENT);
        dueForward("a <> C[0];", KIND);
        dueForward("A[0] <> C[1];", KIND);
        dueForward("C[A[1]] <> A[1];", KIND);
        dueForward("a <> a;", SELF);
        dueForward("A[1] <> A[b + 1];", SELF);
        dueForward("A[1] <> B[1];", SELF);
        dueForward("b <> A[b];", SELF);
        dueForward("A[b] <> b;", SELF);
        dueForward("b <> A[a - 1];", 0);
        dueForward("a <> A[b];", 0);
        dueForward("A[B[1]] <> A[1];", SELF);
        dueForward("A[2] <> A[B[0] - 4];", 0);
        dueForward("A[2] <> A[B[0] - 5];", SELF);
        dueForward("A[0] <> A[B[A[1] * 2] - 4];", SELF);
        dueForward("A[A[2]] <> a;", SELF);
        dueForward("A[b] <> A[b + 1];", 0);
        dueForward("C[0] <> C[1];", 0);
    }

    /** Eight brackets of an F within the [ ] of a P, the most that may stand there. */
    private static void deepPlaces() {
        check.due("deep +=", dueForward("A[((((((((1))))))))] += 7;", 0).item(0, 1), 7);
        check.due("deep += back", dueBack("A[((((((((1))))))))] += 7;", 0).item(0, 1), -7);
        check.due("deep -=", dueForward("A[--------1] -= 7;", 0).item(0, 1), -7);
        check.due("deep ^=", dueForward("A[(-(-(-(-1))))] ^= 6;", 0).item(0, 1), 6);
        check.due("deep <<", dueForward("A[(b < (b < (b < (b < (b < (b < (b < (b < 1)))))))) - 1] << 1;", 0).item(0, 0), 10);
        check.due("deep >> back", dueBack("A[((((((((1 = 1) = 1) = 1) = 1) = 1) = 1) = 1) = 1) - 1] >> 1;", 0).item(0, 0), 10);
        check.due("deep rows", dueForward("C[B[A[B[A[B[A[B[A[2]]]]]]]] - 2] += 4;", 0).item(2, 0), 5);
        check.due("both deep", dueForward("A[((((((((0))))))))] += ((((((((a))))))));", 0).item(0, 0), 8);
        check.due("deep <> name", dueForward("A[--------2] <> a;", 0).value(0), 2);
        check.due("name <> deep", dueForward("a <> A[((((((((b))))))))];", 0).value(0), 5);
        check.due("name <> deep, back", dueBack("a <> A[--------b];", 0).item(0, 0), 3);
        check.due("deep <> deep", dueForward("A[((((((((0))))))))] <> B[--------2];", 0).item(0, 2), 5);

        dueForward("A[((((((((d))))))))] += 1;", ABSENT);
        dueForward("E[((((((((0))))))))] += d;", MISSING);
        dueForward("A[((((((((3))))))))] += d;", OUTSIDE);
        dueForward("A[((((((((1 / b))))))))] += d;", ZERO);
        dueForward("A[B[A[B[A[B[A[B[A[2]]]]]]]]] += 1;", SELF);
        dueForward("A[((((((((2))))))))] += (((((((B[2])))))));", SELF);
        dueForward("b <> A[((((((((b))))))))];", SELF);
        dueForward("A[--------b] <> b;", SELF);
        dueForward("A[((((((((0))))))))] <> B[--------0];", SELF);
        dueForward("A[((((((((0))))))))] <> C[--------0];", KIND);
        dueForward("a <> A[((((((((d))))))))];", ABSENT);
        dueForward("a <> A[--------3];", OUTSIDE);
    }

    private static void piles() {
        dueForward("push d S;", ABSENT);
        dueForward("pop d S;", ABSENT);
        dueForward("pop a S;", VALUE);
        dueForward("pop b S;", EMPTY);
        dueBack("push b S;", EMPTY);
        dueBack("push a S;", VALUE);
        ThereAndBack x = Check.with("from (b = 0) { a += 1; push a U; } loop { b += 1; } until (b = 40);");
        x.give(0, 0);
        x.give(1, 0);
        x.begin(0, false);
        x.run(300);
        check.due("the 31st", x.at(5), FULL);
        check.due("height(2)", x.height(2), 30);
        check.due("piled(2, 29)", x.piled(2, 29), 1);
        check.due("value(1)", x.value(1), 30);
        x.run(-300);
        check.due("back to the beginning", x.at(5), ENDED);
        check.due("height(2) then", x.height(2), 0);
        x = Check.with("push a S; push b S; pop c S; pop d S;");
        for (int k = 0; k < 4; k++) x.give(k, k < 2 ? k + 7 : 0);
        x.begin(0, false);
        check.due("run(4)", x.run(4), 4);
        check.due("the last one first", x.value(2), 8);
        check.due("then the first", x.value(3), 7);
    }

    private static void rows() {
        dueForward("new A int d;", THERE);
        dueForward("new E int d;", ABSENT);
        dueForward("new E int 13;", SIZE);
        dueForward("new E int -1;", SIZE);
        dueForward("new E int 65536 * 65536;", SIZE);
        dueForward("new E int 0;", 0);
        dueForward("end E int d;", MISSING);
        dueForward("end A long d;", KIND);
        dueForward("end A int d;", ABSENT);
        dueForward("end A int 3;", VALUE);
        dueForward("end C byte 3;", VALUE);
        dueBack("new A int 3;", VALUE);
        dueBack("end A int 3;", THERE);
        ThereAndBack x = Check.with("new A byte 2; new B byte 2; A[0] += 1; B[0] <> A[0]; end A byte #B; end B byte 3;");
        x.begin(0, false);
        check.due("up to the last", x.run(9), 5);
        check.due("two, not three", x.at(5), VALUE);
        check.due("each a row of its own", x.item(1, 0), 1);
        check.due("row(0, 0)", x.row(0, 0), ThereAndBack.NOT);
        check.due("back", x.run(-9), 5);
        check.due("nothing is left", x.wipe(), 0);
    }

    /** What refuses an E, from the left, told by a STEP that asks nothing else. */
    private static void evaluations() {
        dueForward("let z = a + d / 0;", ABSENT);
        dueForward("let z = 1 / 0 + d;", ZERO);
        dueForward("let z = 1 % b + d;", ZERO);
        dueForward("let z = d / b;", ABSENT);
        dueForward("let z = E[d];", ABSENT);
        dueForward("let z = E[9];", MISSING);
        dueForward("let z = E[1 / 0];", ZERO);
        dueForward("let z = #E;", MISSING);
        dueForward("let z = A[3];", OUTSIDE);
        dueForward("let z = A[c];", OUTSIDE);
        dueForward("let z = 0 * d;", ABSENT);
        dueForward("let z = (d < 1 / 0);", ABSENT);
        dueForward("let z = (1 / b = d);", ZERO);
        dueForward("let z = -(-(d));", ABSENT);
        dueForward("let z = A[3] + #E;", OUTSIDE);
    }
}

import java.util.Random;

/** Calls of any kind with any arguments: nothing is ever thrown, and what answers below 0 changes nothing it should not. */
final class AnyCallTest {
    private static final Check check = new Check();
    private static final int[] ENDS = {Integer.MIN_VALUE, Integer.MIN_VALUE + 1, -301, -300, -2, -1, 0, 1, 2, 3, 5, 6, 7, 8, 9,
        10, 11, 12, 13, 25, 26, 30, 40, 300, 301, 400, 401, 599, 600, Integer.MAX_VALUE - 1, Integer.MAX_VALUE};

    private static Random random;
    private static ThereAndBack x;

    public static void main(String[] args) {
        for (int n = 0; n < 600; n++) {
            RandomTexts texts = new RandomTexts(n);
            random = texts.random;
            x = new ThereAndBack();
            for (int call = 0; call < 512; call++) {
                if (call % 60 == 0) {
                    Check.read(x, random.nextInt(5), texts.steps(random.nextInt(4), 10, random.nextBoolean()));
                    x.begin(random.nextInt(5), random.nextBoolean());
                }
                anyCall(n);
            }
        }
        check.end();
    }

    private static void anyCall(int n) {
        int which = random.nextInt(35);
        long before = x.digest();
        long answer;
        try {
            answer = called(which, any(), any(), any(), any(), any());
        } catch (RuntimeException thrown) {
            check.dueText("object " + n + ", call " + which, thrown.toString(), "an answer");
            return;
        }
        boolean refused = answer < 0 && answer >= -3 && which < 27 && which != 11 && which != 15 && which != 17 && which != 20;
        if (refused) check.due("object " + n + ", call " + which + ": digest", x.digest(), before);
    }

    private static int any() {
        return random.nextInt(3) > 0 ? random.nextInt(6) : ENDS[random.nextInt(ENDS.length)];
    }

    private static long called(int which, int a, int b, int c, int d, int e) {
        switch (which) {
            case 0: return x.type(random.nextInt(4) == 0 ? random.nextLong() : 0x2B3D41626C65743BL, b);
            case 1: return x.read(a);
            case 2: return x.fault(a);
            case 3: return random.nextInt(4) == 0 ? x.drop(a) : 0;
            case 4: return x.told(a, b);
            case 5: return x.print(a);
            case 6: return x.out(a);
            case 7: return x.take();
            case 8: return x.same(a, b);
            case 9: return x.mirror(a, b);
            case 10: return x.turn(a, b);
            case 11: return x.walk(a, b);
            case 12: return random.nextInt(8) == 0 ? x.wipe() : 0;
            case 13: return x.give(a, b);
            case 14: return x.has(a);
            case 15: return x.value(a);
            case 16: return x.row(a, b);
            case 17: return x.item(a, b);
            case 18: return x.height(a);
            case 19: return x.begin(a, b > 0);
            case 20: return x.piled(a, b);
            case 21: return x.go(a > 2);
            case 22: return x.run(a);
            case 23: return x.goTo(a);
            case 24: return x.at(a);
            case 25: return x.frame(a, b);
            case 26: return x.lay(a, b, c);
            case 27: return x.lift(a, b);
            case 28: return x.put(a, b);
            case 29: return x.set(a, b, c, random.nextLong());
            case 30: return x.get(a, b, c);
            case 31: return x.failed();
            case 32: return x.copy(a, b, c, d, e);
            case 33: return x.alike(a, b);
            default: return x.digest();
        }
    }
}

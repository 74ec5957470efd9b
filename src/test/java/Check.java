import java.util.function.IntToLongFunction;

/** What the project's tests share: due answers, and texts typed as a caller would type them. */
final class Check {
    private int wrong;
    private int calls;

    void due(String call, long got, long want) {
        calls++;
        if (got != want) {
            wrong++;
            System.out.println(call + " answered " + got + ", due is " + want);
        }
    }

    /** One and the same answer is due for each of these arguments. */
    void dueEach(String call, IntToLongFunction answer, long want, int... arguments) {
        for (int argument : arguments) due(call + " of " + argument, answer.applyAsLong(argument), want);
    }

    /** Around 0 .. most: the next ones on both sides, and the farthest. */
    static int[] outside(int most) {
        return new int[] {Integer.MIN_VALUE, -1, most + 1, Integer.MAX_VALUE};
    }

    /** Types a text on an empty tape, up to eight bytes a call. */
    static void type(ThereAndBack x, String text) {
        for (int i = 0; i < text.length(); i += 8) {
            int end = Math.min(i + 8, text.length());
            x.type(word(text.substring(i, end)), end - i);
        }
    }

    /** Up to eight bytes as type() takes them, the first one highest. */
    static long word(String bytes) {
        long w = 0;
        for (int i = 0; i < bytes.length(); i++) w = w << 8 | bytes.charAt(i);
        return w;
    }

    /** Types and reads: what read() answers. */
    static int read(ThereAndBack x, int routine, String text) {
        type(x, text);
        return x.read(routine);
    }

    /** A new object whose routine 0 has this text. */
    static ThereAndBack with(String text) {
        ThereAndBack x = new ThereAndBack();
        int n = read(x, 0, text);
        if (n < 0) throw new IllegalArgumentException(text + " has fault " + x.fault(0) + " at " + x.fault(1));
        return x;
    }

    static String printed(ThereAndBack x, int routine) {
        int n = x.print(routine);
        StringBuilder text = new StringBuilder();
        for (int i = 0; i < n; i++) text.append((char) x.out(i));
        return text.toString();
    }

    void dueText(String call, String got, String want) {
        calls++;
        if (!got.equals(want)) {
            wrong++;
            System.out.println(call + " was\n  " + got + "\n  due is\n  " + want);
        }
    }

    /** A text without fault, and so many INSTRUCTIONS. */
    void dueRead(String text, int instructions) {
        ThereAndBack x = new ThereAndBack();
        due("read(3) of " + text, read(x, 3, text), instructions);
        due("fault(0) of " + text, x.fault(0), 0);
        due("fault(1) of " + text, x.fault(1), 0);
        due("told(3, 0) behind " + text, x.told(3, 0), instructions);
    }

    /** A text that read() finds a fault in, at a place; behind it the tape is empty, and can be read. */
    void dueFault(String text, int fault, int place) {
        ThereAndBack x = new ThereAndBack();
        due("read(3) of " + text, read(x, 3, text), -10 - fault);
        due("fault(0) of " + text, x.fault(0), fault);
        due("fault(1) of " + text, x.fault(1), place);
        due("told(3, 0) behind " + text, x.told(3, 0), ThereAndBack.NOT);
        due("read(3) of the empty tape behind " + text, x.read(3), 0);
        due("fault(0) of that", x.fault(0), 0);
        due("fault(1) of that", x.fault(1), 0);
    }

    /** Of THE RUN: ROUTINE, PLACE, WAY, FRAMES, STEPS, as many as are told. */
    void dueAt(ThereAndBack x, int... want) {
        for (int what = 0; what < want.length; what++) due("at(" + what + ")", x.at(what), want[what]);
    }

    void end() {
        System.out.println(calls + " answers looked at, " + wrong + " not as due");
        if (wrong != 0) System.exit(1);
    }
}

/** What the project's tests share: due answers, and texts typed as a caller would type them. */
final class Check {
    private int wrong;
    private int calls;

    void due(String call, long got, long want) {
        calls++;
        if (got != want) {
            wrong++;
            System.out.println(call + " answered " + got + ", due is " + want);
        }
    }

    /** Types a text on an empty tape, up to eight bytes a call. */
    static void type(ThereAndBack x, String text) {
        for (int i = 0; i < text.length(); i += 8) {
            int end = Math.min(i + 8, text.length());
            long w = 0;
            for (int k = i; k < end; k++) w = w << 8 | text.charAt(k);
            x.type(w, end - i);
        }
    }

    /** Types and reads: what read() answers. */
    static int read(ThereAndBack x, int routine, String text) {
        type(x, text);
        return x.read(routine);
    }

    /** A new object whose routine 0 has this text. */
    static ThereAndBack with(String text) {
        ThereAndBack x = new ThereAndBack();
        int n = read(x, 0, text);
        if (n < 0) throw new IllegalArgumentException(text + " has fault " + x.fault(0) + " at " + x.fault(1));
        return x;
    }

    static String printed(ThereAndBack x, int routine) {
        int n = x.print(routine);
        StringBuilder text = new StringBuilder();
        for (int i = 0; i < n; i++) text.append((char) x.out(i));
        return text.toString();
    }

    void dueText(String call, String got, String want) {
        calls++;
        if (!got.equals(want)) {
            wrong++;
            System.out.println(call + " was\n  " + got + "\n  due is\n  " + want);
        }
    }

    /** A text that read() finds a fault in, at a place. */
    void dueFault(String text, int fault, int place) {
        ThereAndBack x = new ThereAndBack();
        due("read(3) of " + text, read(x, 3, text), -10 - fault);
        due("fault(0) of " + text, x.fault(0), fault);
        due("fault(1) of " + text, x.fault(1), place);
        due("told(3, 0) behind " + text, x.told(3, 0), ThereAndBack.NOT);
    }

    void end() {
        System.out.println(calls + " answers looked at, " + wrong + " not as due");
        if (wrong != 0) System.exit(1);
    }
}

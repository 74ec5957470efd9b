/** Whatever ran can be run back, by many texts: promises 7, 9 to 12 and 23 to 28 together. */
final class RoundTripTest {
    private static final Check check = new Check();

    public static void main(String[] args) {
        RandomTexts texts = new RandomTexts(20261116);
        int gone = 0;
        for (int n = 0; n < 6000; n++) {
            ThereAndBack x = ready(texts);
            gone += stepByStep(x, n);
            atOnce(x, n);
            byTheMirror(x, n);
        }
        for (int n = 0; n < 1000; n++) turned(texts, n);
        System.out.println(gone + " steps went");
        check.due("there were enough steps that went", gone > 10000 ? 1 : 0, 1);
        check.end();
    }

    /** Routines 0 to 2, four NAMES and two ROWS that share nothing. */
    private static ThereAndBack ready(RandomTexts texts) {
        ThereAndBack x = new ThereAndBack();
        for (int r = 0; r < 3; r++) Check.read(x, r, texts.steps(2, 10, false));
        for (int k = 0; k < 4; k++) {
            if (texts.random.nextInt(20) > 0) x.give(k, texts.random.nextInt(4) == 0 ? texts.random.nextInt() : texts.random.nextInt(3));
        }
        for (int r = 0; r < 2; r++) {
            int kind = texts.random.nextInt(3) == 0 ? texts.random.nextInt(5) : 0;
            x.lay(r, kind, 3);
            for (int i = 0; i < 3; i++) x.set(r, kind, i, texts.random.nextInt(3) == 0 ? texts.random.nextLong() : 0);
            if (texts.random.nextInt(15) > 0) x.put(r, r);
        }
        return x;
    }

    private static int stepByStep(ThereAndBack x, int n) {
        long[] digests = new long[61];
        x.begin(0, false);
        int steps = 0;
        digests[0] = x.digest();
        while (steps < 60 && x.go(false) == 1) digests[++steps] = x.digest();
        for (int k = steps; k > 0; k--) {
            check.due("text " + n + ": back from step " + k, x.go(true), 1);
            check.due("text " + n + ": digest at step " + (k - 1), x.digest(), digests[k - 1]);
        }
        return steps;
    }

    private static void atOnce(ThereAndBack x, int n) {
        x.begin(0, false);
        long before = x.digest();
        int steps = x.run(300);
        check.due("text " + n + ": steps", x.at(4), steps);
        check.due("text " + n + ": back at once", x.goTo(0), steps);
        check.due("text " + n + ": digest", x.digest(), before);
    }

    /** Where a routine came to its end, its mirror leads back, and so does going into it from behind. */
    private static void byTheMirror(ThereAndBack x, int n) {
        x.begin(0, false);
        long before = stateOf(x);
        int size = x.told(0, 0);
        int steps = x.run(300);
        if (x.at(5) != 12 || x.at(3) != 0 || x.at(1) != size) return;
        long after = stateOf(x);
        x.begin(0, true);
        check.due("text " + n + ": in from behind", x.run(300), steps);
        check.due("text " + n + ": the state before", stateOf(x), before);
        x.run(-300);
        check.due("text " + n + ": the state after", stateOf(x), after);
        check.due("text " + n + ": mirror", x.mirror(0, 5), size);
        x.begin(5, false);
        check.due("text " + n + ": the mirror's run", x.run(300), steps);
        check.due("text " + n + ": the state before, by the mirror", stateOf(x), before);
        x.mirror(5, 6);
        check.due("text " + n + ": the mirror's mirror", x.same(0, 6), 1);
        x.print(5);
        if (x.take() < 0) return;
        check.due("text " + n + ": read as printed", x.read(7), size);
        check.due("text " + n + ": same(5, 7)", x.same(5, 7), 1);
    }

    /** What is WALKED to its end does to a .. d what it does TURNED. */
    private static void turned(RandomTexts texts, int n) {
        ThereAndBack x = new ThereAndBack();
        if (Check.read(x, 0, texts.steps(2, 6, true)) <= 0) return;
        if (x.turn(0, 1) < 0) return;
        for (int k = 0; k < 4; k++) x.give(k, k);
        if (x.walk(0, 40) < 0) return;
        long walked = namesOf(x);
        x.wipe();
        for (int k = 0; k < 4; k++) x.give(k, k);
        x.begin(1, false);
        long before = x.digest();
        int steps = x.run(300);
        if (x.at(5) == 9) return;
        check.due("ordinary text " + n + ": TURNED, to its end", x.at(5), 12);
        check.due("ordinary text " + n + ": TURNED, the names", namesOf(x), walked);
        check.due("ordinary text " + n + ": TURNED, back", x.run(-300), steps);
        check.due("ordinary text " + n + ": TURNED, digest", x.digest(), before);
    }

    private static long namesOf(ThereAndBack x) {
        long h = 1;
        for (int k = 0; k < 26; k++) h = 31 * (31 * h + x.has(k)) + x.value(k);
        return h;
    }

    private static long stateOf(ThereAndBack x) {
        long h = namesOf(x);
        for (int r = 0; r < 6; r++) {
            h = 31 * (31 * h + x.row(r, 0)) + x.row(r, 1);
            for (int i = 0; i < 12; i++) h = 31 * h + x.item(r, i);
        }
        for (int s = 0; s < 4; s++) {
            h = 31 * h + x.height(s);
            for (int i = 0; i < 30; i++) h = 31 * h + x.piled(s, i);
        }
        return h;
    }
}

/** The edges of Terms 3: the PLACES that THE RUN comes to, and where it can't. One method a sentence, which its remark names. */
final class ForkEdgesTest {
    private static final Check check = new Check();
    private static final String IF = "if A[0] { b += 1; } else { c += 1; } fi A[1];";
    private static final String FROM = "from A[0] { b += 1; } loop { c += 1; } until A[1];";
    private static final int TEST = -1;
    // What is not 0, also where it would be if it were cut to an int.
    private static final long[] TRUE = {1, -1, 1L << 32, Long.MIN_VALUE, Long.MAX_VALUE};

    public static void main(String[] args) {
        placesOfSteps();
        placesOfParts();
        overIfForward();
        overElseForward();
        overFiForward();
        overFromForward();
        overUntilForward();
        overLoopForward();
        overIfBack();
        overElseBack();
        overFiBack();
        overFromBack();
        overUntilBack();
        overLoopBack();
        check.end();
    }

    /** Terms 3: "With n of them there are PLACES 0 .. n"; "over a STEP: .. the PLACE is 1 more (less)." */
    private static void placesOfSteps() {
        for (int n : new int[] {0, 1, 2, 40}) {
            ThereAndBack x = Check.with("a += 1;".repeat(n));
            x.give(0, 0);
            x.begin(0, false);
            for (int place = 0; place <= n; place++) {
                check.due("at(1) of " + n, x.at(1), place);
                check.due("go(false)", x.go(false), place < n ? 1 : -20 - Why.ENDED);
            }
            x.begin(0, true);
            for (int place = n; place >= 0; place--) {
                check.due("at(1) of " + n, x.at(1), place);
                check.due("go(false), back", x.go(false), place > 0 ? 1 : -20 - Why.ENDED);
            }
            check.due("at(1)", x.at(1), 0);
        }
    }

    /** Terms 3: "if: IF .., its first part, ELSE, its second part, FI; from: FROM, its first part, UNTIL, its second part, LOOP." */
    private static void placesOfParts() {
        duePlaces("if 1 { } else { } fi 1;", 0, 1, 3);
        duePlaces("if 0 { } else { } fi 0;", 0, 2, 3);
        duePlaces("from 1 { } loop { } until 1;", 0, 1, 3);
        duePlaces("if 1 { a += 1; } else { a += 1; } fi 1;", 0, 1, 2, 5);
        duePlaces("if 0 { a += 1; } else { a += 1; } fi 0;", 0, 3, 4, 5);
        duePlaces("from 1 { a += 1; } loop { a += 1; } until 1;", 0, 1, 2, 5);
        duePlaces("from (a = 0) { } loop { a += 1; } until (a = 2);", 0, 1, 2, 3, 1, 2, 3, 1, 4);
        duePlaces("if 1 { if 0 { } else { a += 1; } fi 0; } else { } fi 1; a += 1;", 0, 1, 3, 4, 5, 7, 8);
        duePlaces("if 1 {".repeat(5) + "} else { } fi 1;".repeat(5), 0, 1, 2, 3, 4, 5, 7, 9, 11, 13, 15);
    }

    /** From PLACE 0 to the last one, and round again to PLACE 0. */
    private static void duePlaces(String text, int... places) {
        ThereAndBack x = Check.with(text);
        x.give(0, 0);
        x.begin(0, false);
        for (int i = 0; i < places.length; i++) {
            check.due("at(1) of " + text, x.at(1), places[i]);
            check.due("go(false) of " + text, x.go(false), i + 1 < places.length ? 1 : -20 - Why.ENDED);
        }
        for (int i = places.length - 1; i >= 0; i--) {
            check.due("at(1) round, of " + text, x.at(1), places[i]);
            check.due("go(true) of " + text, x.go(true), i > 0 ? 1 : -20 - Why.ENDED);
        }
    }

    /** Terms 3, FORWARD: "IF: to i + 1 if E1 is not 0, else to j + 1." */
    private static void overIfForward() {
        for (long e : TRUE) begun(IF, false).tests(e, 0).goes(false, 1);
        begun(IF, false).tests(0, 0).goes(false, 3);
        begun(IF, false).tests(0, 1).goes(false, 3);
    }

    /** Terms 3, FORWARD: "ELSE: 15 TEST if E2 is 0; to k + 1." */
    private static void overElseForward() {
        for (long e : TRUE) begun(IF, false).tests(1, 0).goes(false, 1).goes(false, 2).tests(0, e).goes(false, 5);
        begun(IF, false).tests(1, 0).goes(false, 1).goes(false, 2).tests(1, 0).goes(false, TEST).tests(1, 1).goes(false, 5);
    }

    /** Terms 3, FORWARD: "FI: TEST if E2 is not 0; to k + 1." */
    private static void overFiForward() {
        for (long e : TRUE) {
            begun(IF, false).tests(0, 0).goes(false, 3).goes(false, 4).tests(0, e).goes(false, TEST).tests(0, 0).goes(false, 5);
        }
        begun(IF, false).tests(0, 0).goes(false, 3).goes(false, 4).tests(1, 0).goes(false, 5);
    }

    /** Terms 3, FORWARD: "FROM: TEST if E1 is 0; to i + 1." */
    private static void overFromForward() {
        for (long e : TRUE) begun(FROM, false).tests(e, 0).goes(false, 1);
        begun(FROM, false).tests(0, 1).goes(false, TEST).tests(1, 0).goes(false, 1);
    }

    /** Terms 3, FORWARD: "UNTIL: to k + 1 if E2 is not 0, else to j + 1." */
    private static void overUntilForward() {
        for (long e : TRUE) begun(FROM, false).tests(1, 0).goes(false, 1).goes(false, 2).tests(0, e).goes(false, 5);
        begun(FROM, false).tests(1, 0).goes(false, 1).goes(false, 2).tests(1, 0).goes(false, 3);
    }

    /** Terms 3, FORWARD: "LOOP: TEST if E1 is not 0; to i + 1." */
    private static void overLoopForward() {
        for (long e : TRUE) looped().tests(e, 0).goes(false, TEST).tests(0, 0).goes(false, 1);
        looped().tests(0, 1).goes(false, 1);
    }

    private static Fork looped() {
        return begun(FROM, false).tests(1, 0).goes(false, 1).goes(false, 2).goes(false, 3).goes(false, 4);
    }

    /** Terms 3, BACK: "IF: TEST if E1 is 0; to i." */
    private static void overIfBack() {
        for (long e : TRUE) begun(IF, false).tests(1, 0).goes(false, 1).tests(e, 0).goes(true, 0);
        begun(IF, false).tests(1, 0).goes(false, 1).tests(0, 1).goes(true, TEST).tests(1, 0).goes(true, 0);
        begun(IF, true).tests(0, 1).goes(false, 2).goes(false, 1).goes(false, TEST).tests(1, 0).goes(false, 0);
    }

    /** Terms 3, BACK: "ELSE: TEST if E1 is not 0; to i." */
    private static void overElseBack() {
        for (long e : TRUE) begun(IF, false).tests(0, 0).goes(false, 3).tests(e, 0).goes(true, TEST).tests(0, 1).goes(true, 0);
        begun(IF, true).tests(1, 0).goes(false, 4).goes(false, 3).goes(false, TEST).tests(0, 0).goes(false, 0);
    }

    /** Terms 3, BACK: "FI: to j if E2 is not 0, else to k." */
    private static void overFiBack() {
        for (long e : TRUE) begun(IF, true).tests(0, e).goes(false, 2);
        begun(IF, true).tests(1, 0).goes(false, 4);
    }

    /** Terms 3, BACK: "FROM: to i if E1 is not 0, else to k." */
    private static void overFromBack() {
        for (long e : TRUE) begun(FROM, false).tests(1, 0).goes(false, 1).tests(e, 0).goes(true, 0);
        begun(FROM, false).tests(1, 0).goes(false, 1).tests(0, 1).goes(true, 4);
    }

    /** Terms 3, BACK: "UNTIL: TEST if E2 is not 0; to j." */
    private static void overUntilBack() {
        for (long e : TRUE) {
            begun(FROM, false).tests(1, 0).goes(false, 1).goes(false, 2).goes(false, 3)
                .tests(1, e).goes(true, TEST).tests(0, 0).goes(true, 2);
        }
    }

    /** Terms 3, BACK: "LOOP: TEST if E2 is 0; to j." */
    private static void overLoopBack() {
        for (long e : TRUE) begun(FROM, true).tests(0, e).goes(false, 2);
        begun(FROM, true).tests(1, 0).goes(false, TEST).tests(0, 1).goes(false, 2);
    }

    private static Fork begun(String text, boolean back) {
        return new Fork(text, back);
    }

    /** THE RUN of an if or a from whose E1 and E2 are the ITEMS of ROW A, on place 7 of the bench, too. */
    private static final class Fork {
        private final Scene scene;
        private final String text;

        Fork(String text, boolean back) {
            this.text = text;
            scene = new Scene(check, text).name('b', 0).name('c', 0).row('A', Why.LONG, 0, 0);
            scene.x.begin(0, back);
        }

        Fork tests(long e1, long e2) {
            scene.x.set(7, Why.LONG, 0, e1);
            scene.x.set(7, Why.LONG, 1, e2);
            return this;
        }

        /** One GO, to that PLACE; or TEST, and nothing is done. */
        Fork goes(boolean round, int place) {
            ThereAndBack x = scene.x;
            int steps = x.at(4);
            int before = x.at(1);
            long digest = x.digest();
            check.due("go(" + round + ") of " + text, x.go(round), place == TEST ? -20 - Why.TEST : 1);
            check.due("at(1) of " + text, x.at(1), place == TEST ? before : place);
            check.due("at(5) of " + text, x.at(5), place == TEST ? Why.TEST : 0);
            check.due("at(4) of " + text, x.at(4), place == TEST ? steps : round ? steps - 1 : steps + 1);
            if (place == TEST) check.due("digest() of " + text, x.digest(), digest);
            return this;
        }
    }
}

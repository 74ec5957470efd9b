/** ROUTINE 0 of a new object, what is in THE STATE ahead of it, and what its first GO, from either end, must answer. */
final class Scene {
    private static final int BENCH_PLACE = 7;

    final ThereAndBack x;
    private final Check check;
    private final String text;

    Scene(Check check, String text) {
        this.check = check;
        this.text = text;
        x = Check.with(text);
    }

    Scene name(char n, int v) {
        x.give(n - 'a', v);
        return this;
    }

    Scene row(char r, int kind, long... items) {
        x.lay(BENCH_PLACE, kind, items.length);
        for (int i = 0; i < items.length; i++) x.set(BENCH_PLACE, kind, i, items[i]);
        x.put(BENCH_PLACE, r - 'A');
        return this;
    }

    /** A ROW that is the very row of ITEMS that another one is. */
    Scene alias(char r, char other) {
        x.lift(other - 'A', BENCH_PLACE);
        x.put(BENCH_PLACE, r - 'A');
        return this;
    }

    Scene done() {
        return doneFrom(false);
    }

    Scene doneBack() {
        return doneFrom(true);
    }

    Scene refused(int why) {
        return refusedFrom(false, why);
    }

    Scene refusedBack(int why) {
        return refusedFrom(true, why);
    }

    /** There, round again, and there once more. */
    private Scene doneFrom(boolean back) {
        x.begin(0, back);
        long before = x.digest();
        check.due("go(false) of " + told(back), x.go(false), 1);
        check.due("at(5) of " + told(back), x.at(5), 0);
        check.due("at(4) of " + told(back), x.at(4), 1);
        long after = x.digest();
        check.due("go(true) behind " + told(back), x.go(true), 1);
        check.due("at(4) behind " + told(back), x.at(4), 0);
        check.due("digest() behind " + told(back), x.digest(), before);
        check.due("run(1) of " + told(back), x.run(1), 1);
        check.due("digest() of " + told(back), x.digest(), after);
        return this;
    }

    /** Nothing is done, and so it is refused alike again. */
    private Scene refusedFrom(boolean back, int why) {
        x.begin(0, back);
        long before = x.digest();
        check.due("go(false) of " + told(back), x.go(false), -20 - why);
        check.due("at(5) of " + told(back), x.at(5), why);
        check.due("at(4) of " + told(back), x.at(4), 0);
        check.due("run(1) of " + told(back), x.run(1), 0);
        check.due("goTo(1) of " + told(back), x.goTo(1), 0);
        check.due("at(5) again of " + told(back), x.at(5), why);
        check.due("digest() of " + told(back), x.digest(), before);
        return this;
    }

    Scene isName(char n, int want) {
        check.due("has " + n + " behind " + text, x.has(n - 'a'), 1);
        check.due(n + " behind " + text, x.value(n - 'a'), want);
        return this;
    }

    Scene isNoName(char n) {
        check.due("has " + n + " behind " + text, x.has(n - 'a'), 0);
        check.due(n + " behind " + text, x.value(n - 'a'), 0);
        return this;
    }

    Scene isRow(char r, int kind, long... items) {
        check.due("KIND of " + r + " behind " + text, x.row(r - 'A', 0), kind);
        check.due("#" + r + " behind " + text, x.row(r - 'A', 1), items.length);
        for (int i = 0; i < items.length; i++) check.due(r + "[" + i + "] behind " + text, x.item(r - 'A', i), items[i]);
        return this;
    }

    Scene isNoRow(char r) {
        check.due("row " + r + " behind " + text, x.row(r - 'A', 0), ThereAndBack.NOT);
        return this;
    }

    Scene isStack(char s, int... ints) {
        check.due("height of " + s + " behind " + text, x.height(s - 'S'), ints.length);
        for (int i = 0; i < ints.length; i++) check.due(s + "(" + i + ") behind " + text, x.piled(s - 'S', i), ints[i]);
        return this;
    }

    private String told(boolean back) {
        return (back ? "back " : "") + text;
    }
}

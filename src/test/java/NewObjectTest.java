/** Promise 1. */
final class NewObjectTest {
    public static void main(String[] args) {
        Check check = new Check();
        ThereAndBack x = new ThereAndBack();
        for (int r = 0; r < 10; r++) {
            check.due("told(" + r + ", 0)", x.told(r, 0), ThereAndBack.NOT);
            check.due("begin(" + r + ", false)", x.begin(r, false), ThereAndBack.NOT);
        }
        for (int k = 0; k < 26; k++) check.due("has(" + k + ")", x.has(k), 0);
        for (int r = 0; r < 6; r++) check.due("row(" + r + ", 0)", x.row(r, 0), ThereAndBack.NOT);
        for (int s = 0; s < 4; s++) check.due("height(" + s + ")", x.height(s), 0);
        for (int p = 0; p < 8; p++) {
            check.due("put(" + p + ", 0)", x.put(p, 0), ThereAndBack.NULL);
            check.due("alike(0, " + p + ")", x.alike(0, p), 1);
        }
        for (int what = 0; what < 5; what++) check.due("at(" + what + ")", x.at(what), ThereAndBack.NOT);
        check.due("at(5)", x.at(5), 0);
        check.due("fault(0)", x.fault(0), 0);
        check.due("fault(1)", x.fault(1), 0);
        check.due("failed()", x.failed(), 0);
        check.due("out(0)", x.out(0), ThereAndBack.BAD);
        check.due("take()", x.take(), 0);
        check.due("type(65, 1)", x.type(65, 1), 1);
        check.due("digest()", x.digest(), -1632589562329785178L);
        check.end();
    }
}

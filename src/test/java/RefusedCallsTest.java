import java.util.LinkedHashMap;
import java.util.Map;
import java.util.function.ToLongFunction;

/**
 * Terms: "Answers below 0, of several the first that a call names"; "What answers so changes nothing, but as told."
 * Two objects are made alike; one of them gets the refused call; all that can be asked of both is alike then.
 */
final class RefusedCallsTest {
    private static final Check check = new Check();
    private static final int BAD = ThereAndBack.BAD, NOT = ThereAndBack.NOT, FULL = ThereAndBack.FULL, NULL = ThereAndBack.NULL;
    private static final int CAST = ThereAndBack.CAST, INDEX = ThereAndBack.INDEX, STORE = ThereAndBack.STORE, SIZE = ThereAndBack.SIZE;

    private static final Map<String, ToLongFunction<ThereAndBack>> calls = new LinkedHashMap<>();
    private static final Map<String, Integer> answers = new LinkedHashMap<>();

    public static void main(String[] args) {
        textCalls();
        shapeCalls();
        stateCalls();
        runCalls();
        benchCalls();
        for (String name : calls.keySet()) dueRefused(name);
        check.end();
    }

    private static void add(String name, int answer, ToLongFunction<ThereAndBack> call) {
        calls.put(name, call);
        answers.put(name, answer);
    }

    private static void textCalls() {
        add("type(32, 0)", BAD, x -> x.type(32, 0));
        add("type(31, 9)", BAD, x -> x.type(31, 9));
        add("type(31, 1)", BAD, x -> x.type(31, 1));
        add("read(-1)", BAD, x -> x.read(-1));
        add("read(10)", BAD, x -> x.read(10));
        add("fault(2)", BAD, x -> x.fault(2));
        add("drop(10)", BAD, x -> x.drop(10));
        add("drop(7)", NOT, x -> x.drop(7));
        add("told(10, 5)", BAD, x -> x.told(10, 5));
        add("told(7, 5)", BAD, x -> x.told(7, 5));
        add("told(7, 0)", NOT, x -> x.told(7, 0));
        add("print(-1)", BAD, x -> x.print(-1));
        add("print(7)", NOT, x -> x.print(7));
        add("out(-1)", BAD, x -> x.out(-1));
        add("out(600)", BAD, x -> x.out(600));
        add("same(7, 10)", BAD, x -> x.same(7, 10));
        add("same(0, 7)", NOT, x -> x.same(0, 7));
    }

    private static void shapeCalls() {
        add("mirror(7, 10)", BAD, x -> x.mirror(7, 10));
        add("mirror(7, 0)", NOT, x -> x.mirror(7, 0));
        add("mirror(2, 0)", NOT, x -> x.mirror(2, 0));
        add("turn(0, 10)", BAD, x -> x.turn(0, 10));
        add("turn(7, 0)", NOT, x -> x.turn(7, 0));
        add("turn(0, 1)", NOT, x -> x.turn(0, 1));
        add("turn(3, 1)", NOT, x -> x.turn(3, 1));
        add("turn(4, 1)", FULL, x -> x.turn(4, 1));
        add("walk(7, 401)", BAD, x -> x.walk(7, 401));
        add("walk(10, 1)", BAD, x -> x.walk(10, 1));
        add("walk(7, 0)", NOT, x -> x.walk(7, 0));
        add("walk(0, 0)", NOT, x -> x.walk(0, 0));
        add("walk(2, 0)", FULL, x -> x.walk(2, 0));
        add("walk(3, 1)", -20 - Why.ABSENT, x -> x.walk(3, 1));
    }

    private static void stateCalls() {
        add("give(26, 1)", BAD, x -> x.give(26, 1));
        add("has(-1)", BAD, x -> x.has(-1));
        add("row(6, 2)", BAD, x -> x.row(6, 2));
        add("row(5, 2)", BAD, x -> x.row(5, 2));
        add("row(5, 0)", NOT, x -> x.row(5, 0));
        add("height(4)", BAD, x -> x.height(4));
    }

    private static void runCalls() {
        add("begin(10, true)", BAD, x -> x.begin(10, true));
        add("begin(7, true)", NOT, x -> x.begin(7, true));
        add("begin(2, false)", NOT, x -> x.begin(2, false));
        add("run(301)", BAD, x -> x.run(301));
        add("run(-301)", BAD, x -> x.run(-301));
        add("goTo(400)", BAD, x -> x.goTo(400));
        add("at(6)", BAD, x -> x.at(6));
        add("frame(0, 2)", BAD, x -> x.frame(0, 2));
        add("frame(1, 0)", BAD, x -> x.frame(1, 0));
        // As told, at(5) is what refused it, as it was ahead of this call too.
        add("go(false)", -20 - Why.VALUE, x -> x.go(false));
    }

    private static void benchCalls() {
        add("lay(8, 0, -1)", BAD, x -> x.lay(8, 0, -1));
        add("lay(0, 5, 13)", BAD, x -> x.lay(0, 5, 13));
        add("lay(0, 0, 13)", BAD, x -> x.lay(0, 0, 13));
        add("lay(0, 0, -1)", SIZE, x -> x.lay(0, 0, -1));
        add("lift(6, 0)", BAD, x -> x.lift(6, 0));
        add("lift(0, 8)", BAD, x -> x.lift(0, 8));
        add("put(8, 0)", BAD, x -> x.put(8, 0));
        add("put(7, 6)", BAD, x -> x.put(7, 6));
        add("put(7, 0)", NULL, x -> x.put(7, 0));
        add("set(7, 5, 0, 1)", BAD, x -> x.set(7, 5, 0, 1));
        add("set(7, 1, 9, 1)", NULL, x -> x.set(7, 1, 9, 1));
        add("set(0, 1, 9, 1)", CAST, x -> x.set(0, 1, 9, 1));
        add("set(0, 0, 9, 1)", INDEX, x -> x.set(0, 0, 9, 1));
        add("copy(7, 0, 8, 0, 1)", BAD, x -> x.copy(7, 0, 8, 0, 1));
        add("copy(0, 9, 7, 0, 1)", NULL, x -> x.copy(0, 9, 7, 0, 1));
        add("copy(0, 9, 1, 0, 1)", STORE, x -> x.copy(0, 9, 1, 0, 1));
        add("copy(0, 1, 0, 0, 2)", INDEX, x -> x.copy(0, 1, 0, 0, 2));
        add("alike(8, 0)", BAD, x -> x.alike(8, 0));
    }

    private static void dueRefused(String name) {
        ThereAndBack x = ready();
        check.due(name, calls.get(name).applyAsLong(x), answers.get(name));
        check.dueText("all behind " + name, all(x), all(ready()));
    }

    /** TEXTS 0 to 4, some STATE, a RUN that was refused, a tape, an out, a fault, a bench, a get() that failed. */
    private static ThereAndBack ready() {
        ThereAndBack x = Check.with("call 1;");
        Check.read(x, 1, "push b S; unlet a = 9;");
        Check.read(x, 2, "set a = 1;");
        Check.read(x, 3, "set a = z;");
        Check.read(x, 4, "set a=1;".repeat(21));
        Check.read(x, 5, "call 10;");
        x.give(0, 8);
        x.give(1, 7);
        x.lay(0, Why.INT, 2);
        x.set(0, Why.INT, 1, 3);
        x.put(0, 0);
        x.lay(1, Why.CHAR, 2);
        x.print(2);
        Check.type(x, "b += 1; ");
        x.get(0, Why.INT, 2);
        x.begin(0, false);
        x.run(9);
        return x;
    }

    /** All that can be asked of an object, the calls that change something last. */
    private static String all(ThereAndBack x) {
        StringBuilder all = new StringBuilder();
        all.append(x.digest()).append(" fault ").append(x.fault(0)).append(' ').append(x.fault(1)).append(" failed ").append(x.failed());
        for (int what = 0; what <= 5; what++) all.append(" at ").append(x.at(what));
        for (int i = 0; x.out(i) >= 0; i++) all.append((char) x.out(i));
        for (int place = 1; place < 8; place++) all.append(x.alike(0, place)).append(x.alike(1, place));
        for (int i = 0; i < 2; i++) all.append(" [").append(x.get(0, Why.INT, i)).append(' ').append(x.get(1, Why.CHAR, i)).append(']');
        all.append(" tape ").append(x.type(32, 1)).append(x.read(9));
        for (int r = 0; r < 10; r++) all.append(x.told(r, 0) < 0 ? " none" : " " + Check.printed(x, r));
        return all.toString();
    }
}

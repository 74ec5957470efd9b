import java.lang.reflect.Field;
import java.lang.reflect.Member;
import java.lang.reflect.Method;
import java.lang.reflect.Modifier;
import java.util.Arrays;
import java.util.List;
import java.util.TreeSet;

/** The document's public face, no more and no less; and the rules 1, 2, 5 and 11 of LANGUAGE.md that can be looked up. */
final class FaceTest {
    private static final List<String> FACE = Arrays.asList(
        "int type(long, int)", "int read(int)", "int fault(int)", "int drop(int)", "int told(int, int)", "int print(int)",
        "int out(int)", "int take()", "int same(int, int)", "int mirror(int, int)", "int turn(int, int)", "int walk(int, int)",
        "int wipe()", "int give(int, int)", "int has(int)", "int value(int)", "int row(int, int)", "long item(int, int)",
        "int height(int)", "int piled(int, int)", "int begin(int, boolean)", "int go(boolean)", "int run(int)", "int goTo(int)",
        "int at(int)", "int frame(int, int)", "long digest()", "int lay(int, int, int)", "int lift(int, int)", "int put(int, int)",
        "int set(int, int, int, long)", "long get(int, int, int)", "int failed()", "int copy(int, int, int, int, int)",
        "int alike(int, int)");
    private static final Check check = new Check();

    public static void main(String[] args) {
        constants();
        TreeSet<String> names = methods();
        check.due("constructors", ThereAndBack.class.getDeclaredConstructors().length, 1);
        check.due("the constructor is public", ThereAndBack.class.getConstructors().length, 1);
        check.due("the class is final", Modifier.isFinal(ThereAndBack.class.getModifiers()) ? 1 : 0, 1);
        check.due("classes inside, some twelve", ThereAndBack.class.getDeclaredClasses().length <= 12 ? 1 : 0, 1);
        for (Class<?> inner : ThereAndBack.class.getDeclaredClasses()) {
            check.due(inner + " is static", Modifier.isStatic(inner.getModifiers()) ? 1 : 0, 1);
            check.due(inner + " is private", Modifier.isPrivate(inner.getModifiers()) ? 1 : 0, 1);
            for (Method method : inner.getDeclaredMethods()) {
                check.due(method + " has a name of its own", names.contains(method.getName()) ? 1 : 0, 0);
                check.due(method + " has seven parameters at most", method.getParameterCount() <= 7 ? 1 : 0, 1);
            }
            fields(inner);
        }
        fields(ThereAndBack.class);
        check.end();
    }

    private static void constants() {
        check.due("BAD", ThereAndBack.BAD, -1);
        check.due("NOT", ThereAndBack.NOT, -2);
        check.due("FULL", ThereAndBack.FULL, -3);
        check.due("NULL", ThereAndBack.NULL, -11);
        check.due("CAST", ThereAndBack.CAST, -12);
        check.due("INDEX", ThereAndBack.INDEX, -13);
        check.due("STORE", ThereAndBack.STORE, -14);
        check.due("SIZE", ThereAndBack.SIZE, -15);
        check.due("public constants", ThereAndBack.class.getFields().length, 8);
    }

    /** The names of the face's methods. */
    private static TreeSet<String> methods() {
        TreeSet<String> names = new TreeSet<>();
        int found = 0;
        for (Method method : ThereAndBack.class.getDeclaredMethods()) {
            if (isHidden(method)) continue;
            found++;
            names.add(method.getName());
            check.due(signature(method) + " is of the face", FACE.contains(signature(method)) ? 1 : 0, 1);
            check.due(signature(method) + " is public", Modifier.isPublic(method.getModifiers()) ? 1 : 0, 1);
        }
        check.due("public methods", found, FACE.size());
        for (Method method : ThereAndBack.class.getDeclaredMethods()) {
            if (isHidden(method)) check.due(method + " has a name of its own", names.contains(method.getName()) ? 1 : 0, 0);
        }
        return names;
    }

    private static boolean isHidden(Member member) {
        return Modifier.isPrivate(member.getModifiers());
    }

    private static String signature(Method method) {
        StringBuilder text = new StringBuilder(method.getReturnType() + " " + method.getName() + "(");
        for (Class<?> type : method.getParameterTypes()) text.append(text.charAt(text.length() - 1) == '(' ? "" : ", ").append(type);
        return text.append(")").toString();
    }

    private static void fields(Class<?> owner) {
        int own = 0;
        for (Field field : owner.getDeclaredFields()) {
            if (!Modifier.isStatic(field.getModifiers())) own++;
            else check.due(field + " is final", Modifier.isFinal(field.getModifiers()) ? 1 : 0, 1);
            boolean ofTheFace = Modifier.isPublic(field.getModifiers()) && Modifier.isStatic(field.getModifiers());
            if (owner == ThereAndBack.class) check.due(field + " is hidden", isHidden(field) || ofTheFace ? 1 : 0, 1);
        }
        check.due(owner + " has some twenty fields at most", own <= 20 ? 1 : 0, 1);
    }
}

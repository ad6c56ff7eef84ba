import java.lang.reflect.Constructor;
import java.lang.reflect.Field;
import java.lang.reflect.Method;
import java.lang.reflect.Modifier;
import java.util.Arrays;
import java.util.TreeSet;

/** The public face: what the document lists, and no other member that can be seen from outside. */
public final class FaceTest {
    private static final String[] FACE = {
        "rack 1", "wear 1", "set 0", "trunk 1", "row 2", "write 3", "value 2", "kind 1", "state 1", "holder 1",
        "put 3", "take 2", "inside 2", "size 3", "reach 4", "alter 3", "sizeOf 3", "actor 0", "measure 3", "fits 2",
        "cost 2", "minutes 1", "wash 1", "role 2", "clear 0", "scene 2", "plan 0", "dressOf 1", "least 2", "hire 2",
        "back 4", "purse 0", "spent 0", "share 2", "find 2", "count 1", "undo 0", "locks 1", "status 0", "digest 0",
    };

    public static void main(String[] args) {
        TreeSet<String> seen = new TreeSet<>();
        TreeSet<String> hidden = new TreeSet<>();
        for (Method method : CostumeStock.class.getDeclaredMethods()) {
            if (method.isSynthetic()) {
                continue;
            }
            boolean isPublic = Modifier.isPublic(method.getModifiers());
            (isPublic ? seen : hidden).add(method.getName() + (isPublic ? " " + method.getParameterCount() : ""));
            Due.answer(method.getName() + "() is public or private",
                isPublic || Modifier.isPrivate(method.getModifiers()) ? 1 : 0, 1);
            if (isPublic) {
                Due.answer(method.getName() + "() answers int", method.getReturnType() == int.class ? 1 : 0, 1);
            }
        }
        TreeSet<String> want = new TreeSet<>(Arrays.asList(FACE));
        Due.answer("public methods " + seen, seen.equals(want) ? 1 : 0, 1);
        for (String call : want) {
            Due.answer("private " + call, hidden.contains(call.substring(0, call.indexOf(' '))) ? 1 : 0, 0);
        }
        for (Field field : CostumeStock.class.getDeclaredFields()) {
            Due.answer(field.getName() + " is private", Modifier.isPrivate(field.getModifiers()) ? 1 : 0, 1);
            boolean isStatic = Modifier.isStatic(field.getModifiers());
            Due.answer(field.getName() + ", if static, is final",
                !isStatic || Modifier.isFinal(field.getModifiers()) ? 1 : 0, 1);
        }
        Constructor<?>[] made = CostumeStock.class.getDeclaredConstructors();
        Due.answer("constructors", made.length, 1);
        Due.answer("the constructor's parameters", made[0].getParameterCount(), 0);
        Due.answer("the class is public and final",
            CostumeStock.class.getModifiers() & (Modifier.PUBLIC | Modifier.FINAL), Modifier.PUBLIC | Modifier.FINAL);
        Due.end();
    }
}

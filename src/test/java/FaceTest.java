import java.lang.reflect.Constructor;
import java.lang.reflect.Field;
import java.lang.reflect.Method;
import java.lang.reflect.Modifier;
import java.util.Arrays;
import java.util.TreeSet;

/** The public face is the document's, and nothing but private members and classes stands beside it. */
public final class FaceTest {
    private static final String[] FACE = {
        "int NONE",
        "KeeperTree()",
        "void first(int, int, int)",
        "int keeper(int, int, int, int, int)",
        "int worker(int, int, int, int, int, int)",
        "int failing(int, int)",
        "boolean begin()",
        "void ends(int, int)",
        "int kill(int)",
        "void stop(int)",
        "boolean again(int)",
        "int remove(int)",
        "int pass(int)",
        "int state(int)",
        "int about(int, int)",
        "int child(int, int)",
        "int event(int, int)",
        "int total(int)",
    };

    public static void main(String[] args) {
        TreeSet<String> want = new TreeSet<>(Arrays.asList(FACE));
        TreeSet<String> got = new TreeSet<>();
        TreeSet<String> publicNames = new TreeSet<>();
        for (Field field : KeeperTree.class.getDeclaredFields()) {
            if (!Modifier.isPrivate(field.getModifiers())) {
                got.add(field.getType().getSimpleName() + " " + field.getName());
            }
        }
        for (Constructor<?> made : KeeperTree.class.getDeclaredConstructors()) {
            got.add("KeeperTree" + listed(made.getParameterTypes()));
        }
        for (Method method : KeeperTree.class.getDeclaredMethods()) {
            if (!Modifier.isPrivate(method.getModifiers())) {
                publicNames.add(method.getName());
                got.add(method.getReturnType().getSimpleName() + " " + method.getName()
                        + listed(method.getParameterTypes()));
            }
        }
        boolean right = got.equals(want) && Modifier.isFinal(KeeperTree.class.getModifiers());
        for (Method method : KeeperTree.class.getDeclaredMethods()) {
            right &= !Modifier.isPrivate(method.getModifiers()) || !publicNames.contains(method.getName());
        }
        for (Class<?> inside : KeeperTree.class.getDeclaredClasses()) {
            right &= Modifier.isStatic(inside.getModifiers()) && !Modifier.isPublic(inside.getModifiers());
        }
        System.out.println(right ? "the face is as due" : "the face is " + got + ", due is " + want);
        if (!right) {
            System.exit(1);
        }
    }

    private static String listed(Class<?>[] types) {
        String[] names = new String[types.length];
        for (int i = 0; i < types.length; i++) {
            names[i] = types[i].getSimpleName();
        }
        return "(" + String.join(", ", names) + ")";
    }
}

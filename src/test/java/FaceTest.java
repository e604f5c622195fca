import java.lang.reflect.Constructor;
import java.lang.reflect.Field;
import java.lang.reflect.Method;
import java.lang.reflect.Modifier;
import java.util.Arrays;
import java.util.Set;
import java.util.TreeSet;
import java.util.stream.Collectors;

/** The public face is the document's, and nothing but private members and classes stands beside it. */
public final class FaceTest extends Checks {
    private static final String ARGUMENT_OR_STATE = " throws IllegalArgumentException, IllegalStateException";
    private static final String[] FACE = {
        "public static final int NONE",
        "public KeeperTree()",
        "public void first(int, int, int)" + ARGUMENT_OR_STATE,
        "public int keeper(int, int, int, int, int)" + ARGUMENT_OR_STATE,
        "public int worker(int, int, int, int, int, int)" + ARGUMENT_OR_STATE,
        "public int failing(int, int) throws IllegalArgumentException",
        "public boolean begin() throws IllegalStateException",
        "public void ends(int, int)" + ARGUMENT_OR_STATE,
        "public int kill(int)" + ARGUMENT_OR_STATE,
        "public void stop(int)" + ARGUMENT_OR_STATE,
        "public boolean again(int)" + ARGUMENT_OR_STATE,
        "public int remove(int)" + ARGUMENT_OR_STATE,
        "public int pass(int) throws IllegalArgumentException",
        "public int state(int) throws IllegalArgumentException",
        "public int about(int, int) throws IllegalArgumentException",
        "public int child(int, int) throws IllegalArgumentException",
        "public int event(int, int) throws IllegalArgumentException",
        "public int total(int) throws IllegalArgumentException",
    };

    public static void main(String[] args) {
        subject("The public face");
        dueText("the class", Modifier.toString(KeeperTree.class.getModifiers()), "public final");
        due("NONE", KeeperTree.NONE, -1);
        dueText("members that are not private", String.join("\n", members()),
                String.join("\n", new TreeSet<>(Arrays.asList(FACE))));
        privateMethodsHaveOtherNames();
        classesInside();
        closeTest();
    }

    private static Set<String> members() {
        Set<String> members = new TreeSet<>();
        for (Field field : KeeperTree.class.getDeclaredFields()) {
            if (!Modifier.isPrivate(field.getModifiers())) {
                members.add(Modifier.toString(field.getModifiers()) + " " + field.getType() + " " + field.getName());
            }
        }
        for (Constructor<?> made : KeeperTree.class.getDeclaredConstructors()) {
            members.add(Modifier.toString(made.getModifiers()) + " KeeperTree("
                    + listed(made.getParameterTypes()) + ")" + thrown(made.getExceptionTypes()));
        }
        for (Method method : KeeperTree.class.getDeclaredMethods()) {
            if (!Modifier.isPrivate(method.getModifiers())) {
                members.add(Modifier.toString(method.getModifiers()) + " " + method.getReturnType() + " "
                        + method.getName() + "(" + listed(method.getParameterTypes()) + ")"
                        + thrown(method.getExceptionTypes()));
            }
        }
        return members;
    }

    private static void privateMethodsHaveOtherNames() {
        Set<String> names = Arrays.stream(KeeperTree.class.getMethods()).map(Method::getName)
                .collect(Collectors.toSet());
        for (Method method : KeeperTree.class.getDeclaredMethods()) {
            boolean isPrivate = Modifier.isPrivate(method.getModifiers());
            due("a private " + method.getName(), isPrivate && names.contains(method.getName()), false);
        }
    }

    private static void classesInside() {
        for (Class<?> inside : KeeperTree.class.getDeclaredClasses()) {
            int modifiers = inside.getModifiers();
            due(inside + " is static", Modifier.isStatic(modifiers), true);
            due(inside + " is seen outside", Modifier.isPublic(modifiers) || Modifier.isProtected(modifiers), false);
        }
    }

    private static String thrown(Class<?>[] types) {
        return types.length == 0 ? "" : " throws " + listed(types);
    }

    private static String listed(Class<?>[] types) {
        return Arrays.stream(types).map(Class::getSimpleName).collect(Collectors.joining(", "));
    }
}

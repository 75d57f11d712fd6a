import java.lang.reflect.Constructor;
import java.lang.reflect.Executable;
import java.lang.reflect.Field;
import java.lang.reflect.Method;
import java.lang.reflect.Modifier;
import java.util.Arrays;
import java.util.TreeSet;

/** The class shows the document's face and nothing else. */
public final class FaceTest {
    private static final String[] FACE = {
        "PredicateProver(int)",
        "int type(char)",
        "void wipe()",
        "int edge() throws IllegalArgumentException, IllegalStateException",
        "int predicate() throws IllegalArgumentException, IllegalStateException",
        "void clear()",
        "int prove(int) throws IllegalArgumentException",
        "int outcome()",
        "int edges()",
        "int predicates()",
        "boolean holds(int, int) throws IndexOutOfBoundsException",
        "short signature(int) throws IndexOutOfBoundsException",
        "int follow(int, int, int) throws IndexOutOfBoundsException",
        "int nodes()",
        "int node(int, int) throws IndexOutOfBoundsException, IllegalArgumentException",
        "int length()",
        "int path(int) throws IndexOutOfBoundsException",
        "int input(int) throws IndexOutOfBoundsException",
    };

    private static String names(Class<?>[] types) {
        StringBuilder text = new StringBuilder();
        for (Class<?> type : types) {
            text.append(text.length() == 0 ? "" : ", ").append(type.getSimpleName());
        }
        return text.toString();
    }

    private static String tail(Executable member) {
        String thrown = names(member.getExceptionTypes());
        return "(" + names(member.getParameterTypes()) + ")" + (thrown.isEmpty() ? "" : " throws " + thrown);
    }

    public static void main(String[] args) {
        TreeSet<String> shown = new TreeSet<>();
        TreeSet<String> hidden = new TreeSet<>();
        TreeSet<String> publicNames = new TreeSet<>();
        Class<?> type = PredicateProver.class;
        for (Constructor<?> made : type.getDeclaredConstructors()) {
            if (!Modifier.isPrivate(made.getModifiers())) {
                shown.add("PredicateProver" + tail(made));
            }
        }
        for (Method method : type.getDeclaredMethods()) {
            if (Modifier.isPrivate(method.getModifiers())) {
                hidden.add(method.getName());
            } else {
                shown.add(method.getReturnType().getSimpleName() + " " + method.getName() + tail(method));
                publicNames.add(method.getName());
            }
        }
        for (Field field : type.getDeclaredFields()) {
            if (!Modifier.isPrivate(field.getModifiers())) {
                shown.add("field " + field.getName());
            }
        }
        Check check = new Check();
        if (!shown.equals(new TreeSet<>(Arrays.asList(FACE)))) {
            System.out.println("the face is " + shown);
            check.due("the face as the document's", 0, 1);
        }
        hidden.retainAll(publicNames);
        check.due("private methods with public names", hidden.size(), 0);
        check.due("public and final", type.getModifiers() & (Modifier.PUBLIC | Modifier.FINAL), Modifier.PUBLIC | Modifier.FINAL);
        check.end("FaceTest");
    }
}

import java.lang.reflect.Constructor;
import java.lang.reflect.Field;
import java.lang.reflect.Method;
import java.lang.reflect.Modifier;
import java.util.Arrays;
import java.util.Set;
import java.util.TreeSet;

/** The public face: the document's constants, constructor and methods, and no member more. */
public final class FaceTest {
    private static final Set<String> FACE = new TreeSet<>(Arrays.asList(
            "NONE=-1", "WRONG=-2", "THERE=-3", "ROOM=-4", "NO_NODE=-5", "FULL=-6",
            "new()",
            "int feed(int,long) throws", "int check()", "int fold()", "int folded(int)",
            "int put(int,boolean)", "int find(int)", "int walk(int)", "int move(int,int)",
            "int remove(int)", "int about(int,int) throws", "int entry(int,int)",
            "int sorted(int,int)", "int letter(int,int,int) throws", "int nodes()"));

    public static void main(String[] args) throws IllegalAccessException {
        Set<String> found = new TreeSet<>();
        for (Field field : FoldedNames.class.getDeclaredFields()) {
            if (!Modifier.isPrivate(field.getModifiers())) {
                found.add(field.getName() + "=" + field.getInt(null));
            }
            boolean isStatic = Modifier.isStatic(field.getModifiers());
            Due.due(field + " is final, if static",
                    isStatic && !Modifier.isFinal(field.getModifiers()) ? 1 : 0, 0);
        }
        for (Constructor<?> made : FoldedNames.class.getDeclaredConstructors()) {
            found.add("new(" + types(made.getParameterTypes()) + ")");
        }
        for (Method method : FoldedNames.class.getDeclaredMethods()) {
            if (!Modifier.isPrivate(method.getModifiers())) {
                found.add(method.getReturnType() + " " + method.getName()
                        + "(" + types(method.getParameterTypes()) + ")"
                        + (method.getExceptionTypes().length == 1 ? " throws" : ""));
            }
        }
        if (!found.equals(FACE)) {
            System.out.println("the face is " + found + ", due is " + FACE);
        }
        Due.due("the face is the document's", found.equals(FACE) ? 1 : 0, 1);
        Due.due("the class is public and final",
                FoldedNames.class.getModifiers(), Modifier.PUBLIC | Modifier.FINAL);
        Due.end();
    }

    private static String types(Class<?>[] types) {
        StringBuilder all = new StringBuilder();
        for (Class<?> type : types) {
            all.append(all.length() == 0 ? "" : ",").append(type);
        }
        return all.toString();
    }
}

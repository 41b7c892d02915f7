import java.lang.reflect.Constructor;
import java.lang.reflect.Field;
import java.lang.reflect.Member;
import java.lang.reflect.Method;
import java.lang.reflect.Modifier;
import java.util.Arrays;
import java.util.TreeSet;

/** The public face is the document's, and no other member can be seen from outside. */
public final class FaceTest {
    private static final String[] FACE = {"int feed(int, int, int, int, int)", "boolean end(int)", "int read()",
        "boolean tell(int)", "void forget()", "boolean pin(int, int)", "boolean loose(int)", "int look(int)",
        "int mention(int, int)", "int person(int, int)", "int chain(int, int)", "int name(int, int)", "int who(int)"};

    public static void main(String[] args) {
        Class<?> face = TaleReader.class;
        Tales.due("public and final", face.getModifiers(), Modifier.PUBLIC | Modifier.FINAL);
        TreeSet<String> methods = new TreeSet<>();
        for (Method method : face.getDeclaredMethods()) {
            if (!isHidden(method)) {
                methods.add(signature(method));
                Tales.due(method + " is public and nothing else", method.getModifiers(), Modifier.PUBLIC);
            }
        }
        Tales.dueTheSame("the methods", methods.toString(), new TreeSet<>(Arrays.asList(FACE)).toString());
        Constructor<?>[] constructors = face.getDeclaredConstructors();
        Tales.due("constructors", constructors.length, 1);
        Tales.due("a public constructor", constructors[0].getModifiers(), Modifier.PUBLIC);
        Tales.due("its parameters", constructors[0].getParameterCount(), 0);
        for (Field field : face.getDeclaredFields()) {
            boolean constant = field.getName().equals("NONE");
            Tales.due(field + " is hidden", isHidden(field), !constant);
            Tales.due(field + " is final", Modifier.isFinal(field.getModifiers()), true);
        }
        for (Class<?> inside : face.getDeclaredClasses()) {
            Tales.due(inside + " is static", Modifier.isStatic(inside.getModifiers()), true);
            Tales.due(inside + " is public", Modifier.isPublic(inside.getModifiers()), false);
        }
        Tales.due("NONE", TaleReader.NONE, -1);
        Tales.finish();
    }

    private static boolean isHidden(Member member) {
        return Modifier.isPrivate(member.getModifiers()) || member.isSynthetic();
    }

    private static String signature(Method method) {
        StringBuilder text = new StringBuilder(method.getReturnType() + " " + method.getName() + "(");
        for (Class<?> parameter : method.getParameterTypes()) {
            text.append(text.toString().endsWith("(") ? "" : ", ").append(parameter);
        }
        return text.append(")").toString();
    }
}

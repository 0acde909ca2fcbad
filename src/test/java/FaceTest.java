import java.lang.reflect.Constructor;
import java.lang.reflect.Field;
import java.lang.reflect.Method;
import java.lang.reflect.Modifier;
import java.util.ArrayList;
import java.util.Arrays;
import java.util.Collections;
import java.util.List;

/** The public face: every constant, constructor and method of the document, and nothing else. */
public final class FaceTest {
    private static final Check CHECK = new Check();
    private static final String INDEX = "IndexOutOfBoundsException";
    private static final String ARGUMENT = "IllegalArgumentException";
    private static final String STATE = "IllegalStateException";

    private static final String[] METHODS = {
        "int type(char) " + ARGUMENT + " " + STATE,
        "int empty()",
        "int cartoon(int) " + ARGUMENT + " " + STATE,
        "int row(int) " + INDEX + " " + STATE,
        "void hatch(int, int, int) " + INDEX,
        "int dye(int, int, int, boolean) " + INDEX + " " + ARGUMENT + " " + STATE,
        "int left(int) " + INDEX,
        "int gold()",
        "int loom(int, int, boolean) " + INDEX + " " + ARGUMENT + " " + STATE,
        "int weave(int, int) " + INDEX + " " + STATE,
        "int pieceIs(int, int) " + INDEX + " " + ARGUMENT,
        "int cell(int, int, int, int) " + INDEX + " " + ARGUMENT,
        "boolean sew(int, int) " + INDEX + " " + STATE,
        "int light(int, int) " + INDEX + " " + ARGUMENT + " " + STATE,
        "int wash(int) " + INDEX + " " + STATE,
        "int cut(int, int) " + INDEX + " " + STATE,
        "int match(int, int) " + INDEX + " " + ARGUMENT + " " + STATE,
        "boolean join(int, int) " + INDEX + " " + ARGUMENT + " " + STATE,
        "boolean isTrue(int) " + INDEX,
        "int likeness(int, int) " + INDEX,
        "boolean balances()"};

    public static void main(String[] arguments) {
        Class<?> face = WeftHouse.class;
        CHECK.due("the class", Modifier.toString(face.getModifiers()), "public final");
        constructors(face);
        fields(face);
        methods(face);
        for (Class<?> inside : face.getDeclaredClasses()) {
            CHECK.due(inside + " is static", Modifier.isStatic(inside.getModifiers()), true);
            CHECK.due(inside + " is not public", Modifier.isPublic(inside.getModifiers()), false);
        }
        CHECK.finish();
    }

    private static void constructors(Class<?> face) {
        Constructor<?>[] constructors = face.getDeclaredConstructors();
        CHECK.due("one constructor", constructors.length, 1);
        CHECK.due("of nothing", constructors[0].getParameterCount(), 0);
        CHECK.due("public", Modifier.isPublic(constructors[0].getModifiers()), true);
    }

    private static void fields(Class<?> face) {
        for (Field field : face.getDeclaredFields()) {
            boolean isConstant = field.getName().equals("NONE");
            CHECK.due(field + " is private", Modifier.isPrivate(field.getModifiers()), !isConstant);
            if (isConstant) {
                CHECK.due("NONE", Modifier.toString(field.getModifiers()), "public static final");
            }
            if (Modifier.isStatic(field.getModifiers())) {
                CHECK.due(field + " is final", Modifier.isFinal(field.getModifiers()), true);
            }
        }
    }

    private static void methods(Class<?> face) {
        List<String> found = new ArrayList<>();
        List<String> names = new ArrayList<>();
        for (Method method : face.getDeclaredMethods()) {
            if (!Modifier.isPrivate(method.getModifiers())) {
                CHECK.due(method.getName(), Modifier.toString(method.getModifiers()), "public");
                found.add(signatureOf(method));
                names.add(method.getName());
            }
        }
        List<String> due = new ArrayList<>(Arrays.asList(METHODS));
        Collections.sort(due);
        Collections.sort(found);
        CHECK.due("the methods", found.toString(), due.toString());
        namesOfOthers(face, names);
    }

    private static void namesOfOthers(Class<?> face, List<String> names) {
        privateNames(face, names);
        for (Class<?> inside : face.getDeclaredClasses()) {
            privateNames(inside, names);
        }
    }

    private static void privateNames(Class<?> where, List<String> names) {
        for (Method method : where.getDeclaredMethods()) {
            if (Modifier.isPrivate(method.getModifiers())) {
                CHECK.due(method + " bears a public name", names.contains(method.getName()), false);
            }
        }
    }

    private static String signatureOf(Method method) {
        StringBuilder signature = new StringBuilder();
        signature.append(method.getReturnType()).append(' ').append(method.getName()).append('(');
        for (Class<?> parameter : method.getParameterTypes()) {
            if (signature.charAt(signature.length() - 1) != '(') {
                signature.append(", ");
            }
            signature.append(parameter);
        }
        signature.append(')');
        for (Class<?> exception : method.getExceptionTypes()) {
            signature.append(' ').append(exception.getSimpleName());
        }
        return signature.toString();
    }
}

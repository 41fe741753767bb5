import java.lang.reflect.Constructor;
import java.lang.reflect.Field;
import java.lang.reflect.Method;
import java.lang.reflect.Modifier;
import java.util.TreeSet;

/** The face is the document's, whole, and nothing else can be seen from outside. */
public final class FaceTest {
    private static final String[] METHODS = {
        "int type(long,int)", "int clear()", "int gate()", "int load(int)", "int taster(int,int)",
        "int cups(int,int,int)", "int weighs(int,int)", "int says(int,int,int)",
        "int jug(int,int,int,int,int)", "int night()", "int heat(int)", "int undo()",
        "int known(int,int)", "int canBe(int,int)", "int next(int,int)", "int enough(int,int)",
        "int heavier(int,int)", "int told(int,int,int,int)", "int forget()", "int learnt(int)",
        "int may(int,int,int,int)", "int bribed()", "int memory(int,int,int,int)",
        "int mark(int,int)", "int keep(int)", "int back(int)", "int count(int)", "long trace()",
    };
    private static final String[] CONSTANTS = {"BAD", "FULL", "NO", "NONE", "STATE"};

    public static void main(String[] args) {
        Checks checks = new Checks();
        checks.about("face");
        Class<?> face = ThirstScales.class;
        checks.due("the class's modifiers", face.getModifiers(), Modifier.PUBLIC | Modifier.FINAL);
        checks.due("methods", openMethods(face).toString(), new TreeSet<>(java.util.List.of(METHODS)).toString());
        checks.due("constants", openFields(face).toString(), new TreeSet<>(java.util.List.of(CONSTANTS)).toString());
        checks.due("constructors", face.getDeclaredConstructors().length, 1);
        for (Constructor<?> made : face.getDeclaredConstructors()) {
            checks.due("the constructor's modifiers", made.getModifiers(), Modifier.PUBLIC);
            checks.due("the constructor's parameters", made.getParameterCount(), 0);
        }
        checks.due("BAD", ThirstScales.BAD, -1);
        checks.due("STATE", ThirstScales.STATE, -2);
        checks.due("FULL", ThirstScales.FULL, -3);
        checks.due("NONE", ThirstScales.NONE, -9);
        checks.due("NO", ThirstScales.NO, -1000000);
        noPrivateNameOfAPublicOne(checks, face);
        checks.end();
    }

    private static TreeSet<String> openMethods(Class<?> face) {
        TreeSet<String> found = new TreeSet<>();
        for (Method method : face.getDeclaredMethods()) {
            if (Modifier.isPrivate(method.getModifiers()) || method.isSynthetic()) {
                continue;
            }
            StringBuilder parameters = new StringBuilder();
            for (Class<?> type : method.getParameterTypes()) {
                parameters.append(parameters.length() == 0 ? "" : ",").append(type.getName());
            }
            found.add(method.getReturnType().getName() + " " + method.getName() + "(" + parameters + ")");
        }
        return found;
    }

    private static TreeSet<String> openFields(Class<?> face) {
        TreeSet<String> found = new TreeSet<>();
        for (Field field : face.getDeclaredFields()) {
            if (!Modifier.isPrivate(field.getModifiers())) {
                found.add(field.getName());
            }
        }
        return found;
    }

    private static void noPrivateNameOfAPublicOne(Checks checks, Class<?> face) {
        TreeSet<String> open = new TreeSet<>();
        for (Method method : face.getDeclaredMethods()) {
            if (Modifier.isPublic(method.getModifiers())) {
                open.add(method.getName());
            }
        }
        for (Method method : face.getDeclaredMethods()) {
            if (Modifier.isPrivate(method.getModifiers())) {
                checks.due(method.getName() + " is open, too", open.contains(method.getName()) ? 1 : 0, 0);
            }
        }
    }
}

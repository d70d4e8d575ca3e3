import java.lang.reflect.Constructor;
import java.lang.reflect.Field;
import java.lang.reflect.Method;
import java.lang.reflect.Modifier;
import java.util.Arrays;
import java.util.TreeSet;

/** The public face, and rule 1 of LANGUAGE.md: all of it is there, and nothing else can be seen. */
public final class FaceTest {
    private static final Check check = new Check();
    private static final String[] FACE = {
        "name(int,int)", "leave(int,int)", "row(int,int,int,int,int)", "factor(int,int,int)", "clear()",
        "run(int,int)", "clash()", "has(int,int)", "end(int,boolean)", "size(int)", "steps()",
        "step(int,int)", "reason(int)", "part(int,int)", "told(int,int)", "plans()"};

    private static String told(Method method) {
        StringBuilder text = new StringBuilder(method.getName()).append('(');
        String comma = "";
        for (Class<?> type : method.getParameterTypes()) {
            text.append(comma).append(type.getName());
            comma = ",";
        }
        return text.append(')').toString();
    }

    private static TreeSet<String> namesOfFace() {
        TreeSet<String> names = new TreeSet<>();
        for (String method : FACE) {
            names.add(method.substring(0, method.indexOf('(')));
        }
        return names;
    }

    private static void methods() {
        TreeSet<String> due = new TreeSet<>(Arrays.asList(FACE));
        TreeSet<String> found = new TreeSet<>();
        for (Method method : LinearReach.class.getDeclaredMethods()) {
            if (Modifier.isPublic(method.getModifiers())) {
                found.add(told(method));
                check.isTrue(method + " answers an int", method.getReturnType() == int.class);
                check.isTrue(method + " is no static one", !Modifier.isStatic(method.getModifiers()));
            }
        }
        check.isTrue("the public methods are " + found, found.equals(due));
        for (Method method : LinearReach.class.getDeclaredMethods()) {
            if (!Modifier.isPublic(method.getModifiers())) {
                check.isTrue(method + " is private", Modifier.isPrivate(method.getModifiers()));
                check.isTrue(method + " has a name of its own", !namesOfFace().contains(method.getName()));
            }
        }
    }

    private static void constants() throws IllegalAccessException {
        TreeSet<String> found = new TreeSet<>();
        for (Field field : LinearReach.class.getDeclaredFields()) {
            int modifiers = field.getModifiers();
            check.isTrue(field + " is final, if static", Modifier.isFinal(modifiers) || !Modifier.isStatic(modifiers));
            if (Modifier.isPublic(modifiers)) {
                found.add(field.getName() + "=" + field.getInt(null));
            } else {
                check.isTrue(field + " is private", Modifier.isPrivate(modifiers));
            }
        }
        check.isTrue("the constants are " + found, found.equals(new TreeSet<>(Arrays.asList(
                "NONE=-1000", "OUTSIDE=-1001", "STATE=-1002", "ROOM=-1003"))));
    }

    private static void classes() {
        int modifiers = LinearReach.class.getModifiers();
        check.isTrue("public and final", Modifier.isPublic(modifiers) && Modifier.isFinal(modifiers));
        check.isTrue("no package", LinearReach.class.getPackageName().isEmpty());
        Constructor<?>[] constructors = LinearReach.class.getDeclaredConstructors();
        check.due("constructors", constructors.length, 1);
        check.due("its parameters", constructors[0].getParameterCount(), 0);
        check.isTrue("it is public", Modifier.isPublic(constructors[0].getModifiers()));
        for (Class<?> inside : LinearReach.class.getDeclaredClasses()) {
            int inner = inside.getModifiers();
            check.isTrue(inside + " is static", Modifier.isStatic(inner));
            check.isTrue(inside + " is not public", !Modifier.isPublic(inner) && !Modifier.isProtected(inner));
            check.isTrue(inside + " has at most twenty fields", inside.getDeclaredFields().length <= 20);
            for (Method method : inside.getDeclaredMethods()) {
                check.isTrue(method + " has a name of its own", !namesOfFace().contains(method.getName()));
            }
        }
        check.isTrue("at most twelve classes", LinearReach.class.getDeclaredClasses().length < 12);
    }

    public static void main(String[] args) throws IllegalAccessException {
        methods();
        constants();
        classes();
        check.finish();
    }
}

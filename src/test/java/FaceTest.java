import java.lang.reflect.Constructor;
import java.lang.reflect.Field;
import java.lang.reflect.Member;
import java.lang.reflect.Method;
import java.lang.reflect.Modifier;
import java.util.Arrays;
import java.util.Set;
import java.util.TreeSet;

/** The public face: every member that the document names, and no other that can be seen from outside. */
public final class FaceTest {

    private static final Set<String> FACE = new TreeSet<>(Arrays.asList(
            "int BAD", "int BUSY", "SharerHome()",
            "int load(int, int)", "int store(int, int, int)", "int add(int, int, int)", "int leave(int, int)",
            "int deliver(int)", "int message(int, int)", "int carried(int)", "int state(int, int)",
            "int value(int, int)", "int due(int, int)", "int home(int)", "int memory(int)", "boolean waits(int)",
            "int done(int)", "int result(int)", "int tally(int, int)", "int run(int)"));

    private static final Check CHECK = new Check("FaceTest");

    public static void main(String[] args) {
        int classModifiers = SharerHome.class.getModifiers();
        CHECK.due("the class is public and final", Modifier.isPublic(classModifiers) && Modifier.isFinal(classModifiers), true);
        CHECK.due("the class stands on nothing else", SharerHome.class.getSuperclass() == Object.class && SharerHome.class.getInterfaces().length == 0, true);
        CHECK.due("BAD", SharerHome.BAD, -1);
        CHECK.due("BUSY", SharerHome.BUSY, -2);
        comparesSeenMembers();
        looksAtPrivateNames();
        looksAtFields();
        CHECK.end();
    }

    private static void comparesSeenMembers() {
        Set<String> seen = new TreeSet<>();
        for (Field field : SharerHome.class.getDeclaredFields()) {
            if (isSeen(field)) {
                CHECK.due(field + " is a constant", Modifier.isStatic(field.getModifiers()) && Modifier.isFinal(field.getModifiers()), true);
                seen.add(field.getType().getName() + " " + field.getName());
            }
        }
        for (Constructor<?> constructor : SharerHome.class.getDeclaredConstructors()) {
            if (isSeen(constructor)) {
                seen.add("SharerHome" + typesOf(constructor.getParameterTypes()));
            }
        }
        for (Method method : SharerHome.class.getDeclaredMethods()) {
            if (isSeen(method)) {
                CHECK.due(method + " is of an object and throws nothing", !Modifier.isStatic(method.getModifiers()) && method.getExceptionTypes().length == 0, true);
                seen.add(method.getReturnType().getName() + " " + method.getName() + typesOf(method.getParameterTypes()));
            }
        }
        if (!seen.equals(FACE)) {
            CHECK.fault("the face is " + seen + ", due is " + FACE);
        }
    }

    private static boolean isSeen(Member member) {
        if (Modifier.isPrivate(member.getModifiers()) || member.isSynthetic()) {
            return false;
        }
        CHECK.due(member + " is public", Modifier.isPublic(member.getModifiers()), true);
        return true;
    }

    private static String typesOf(Class<?>[] types) {
        String[] names = new String[types.length];
        for (int i = 0; i < types.length; i++) {
            names[i] = types[i].getName();
        }
        return "(" + String.join(", ", names) + ")";
    }

    private static void looksAtPrivateNames() {
        Set<String> publicNames = new TreeSet<>();
        for (Method method : SharerHome.class.getMethods()) {
            if (method.getDeclaringClass() == SharerHome.class) {
                publicNames.add(method.getName());
            }
        }
        looksAtMethods(SharerHome.class, publicNames);
        for (Class<?> inside : SharerHome.class.getDeclaredClasses()) {
            CHECK.due(inside + " is static", Modifier.isStatic(inside.getModifiers()), true);
            looksAtMethods(inside, publicNames);
        }
    }

    private static void looksAtMethods(Class<?> owner, Set<String> publicNames) {
        for (Method method : owner.getDeclaredMethods()) {
            boolean isFace = owner == SharerHome.class && Modifier.isPublic(method.getModifiers());
            CHECK.due(method + " bears a public name", !isFace && publicNames.contains(method.getName()), false);
            CHECK.due(method + " has at most seven parameters", method.getParameterCount() <= 7, true);
        }
    }

    private static void looksAtFields() {
        for (Class<?> inside : SharerHome.class.getDeclaredClasses()) {
            for (Field field : inside.getDeclaredFields()) {
                boolean isFixed = !Modifier.isStatic(field.getModifiers()) || Modifier.isFinal(field.getModifiers());
                CHECK.due(field + " is final if it is static", isFixed, true);
            }
        }
        for (Field field : SharerHome.class.getDeclaredFields()) {
            CHECK.due(field + " is final", Modifier.isFinal(field.getModifiers()), true);
        }
    }
}

import java.lang.reflect.Constructor;
import java.lang.reflect.Field;
import java.lang.reflect.Method;
import java.lang.reflect.Modifier;
import java.util.Set;
import java.util.TreeSet;

/** The public face: just the constants, the constructor and the methods of the document. */
public final class FaceOfClassTest {
    private static final String[] METHODS = {
        "int sign(int,int,int,int,int,int,int) IllegalArgumentException IllegalStateException",
        "int nearest(int,int) IndexOutOfBoundsException IllegalArgumentException",
        "int written(int,int) IndexOutOfBoundsException IllegalArgumentException",
        "int loses(int,int) IllegalArgumentException",
        "int item(int,int,int,int) IndexOutOfBoundsException IllegalArgumentException IllegalStateException",
        "int clear()",
        "int face(int,int,int) IndexOutOfBoundsException IllegalArgumentException IllegalStateException",
        "int shown(int,int) IndexOutOfBoundsException IllegalArgumentException",
        "int standsFor(int,int) IndexOutOfBoundsException",
        "int rule(int) IllegalArgumentException IllegalStateException",
        "boolean except(int,int) IndexOutOfBoundsException",
        "int signed(int,int) IndexOutOfBoundsException IllegalArgumentException",
        "int at(int,int) IndexOutOfBoundsException IllegalArgumentException",
        "int readBack(int,int) IndexOutOfBoundsException IllegalArgumentException",
        "int take(int) IndexOutOfBoundsException IllegalStateException",
        "int make(int,int,int) IndexOutOfBoundsException IllegalArgumentException IllegalStateException",
        "int allow(int,int,boolean) IndexOutOfBoundsException IllegalArgumentException",
        "int withdraw(int) IndexOutOfBoundsException",
        "int persons(int) IndexOutOfBoundsException",
        "int mark(int,int,int,int,int,int) IndexOutOfBoundsException IllegalArgumentException IllegalStateException",
        "int agree(int,int,int,int,int) IndexOutOfBoundsException IllegalArgumentException",
    };
    private static final String[] CONSTANTS = {"NONE", "SIGN", "SET", "POINT", "RELEASE", "VERB", "LETTER"};

    public static void main(String[] args) {
        Check check = new Check();
        Class<HandArchive> face = HandArchive.class;
        check.due("public", Modifier.isPublic(face.getModifiers()), true);
        check.due("final", Modifier.isFinal(face.getModifiers()), true);
        methods(check, face);
        constants(check, face);
        constructors(check, face);
        for (Class<?> inner : face.getDeclaredClasses()) {
            int is = inner.getModifiers();
            check.due(inner + " is hidden", Modifier.isPublic(is) || Modifier.isProtected(is), false);
        }
        check.end();
    }

    private static void methods(Check check, Class<HandArchive> face) {
        Set<String> due = new TreeSet<>(Set.of(METHODS));
        Set<String> names = new TreeSet<>();
        for (String method : METHODS) {
            names.add(method.substring(method.indexOf(' ') + 1, method.indexOf('(')));
        }
        for (Method method : face.getDeclaredMethods()) {
            if (Modifier.isPrivate(method.getModifiers())) {
                check.due("private " + method.getName() + " bears a public name",
                        names.contains(method.getName()), false);
            } else {
                check.due("is due: " + told(method), due.remove(told(method)), true);
                check.due("public: " + method.getName(), Modifier.isPublic(method.getModifiers()), true);
                check.due("static: " + method.getName(), Modifier.isStatic(method.getModifiers()), false);
            }
        }
        check.due("missing: " + due, due.size(), 0);
    }

    private static String told(Method method) {
        StringBuilder text = new StringBuilder(method.getReturnType() + " " + method.getName() + "(");
        for (int i = 0; i < method.getParameterTypes().length; i++) {
            text.append(i == 0 ? "" : ",").append(method.getParameterTypes()[i]);
        }
        text.append(")");
        for (Class<?> thrown : method.getExceptionTypes()) {
            text.append(" ").append(thrown.getSimpleName());
        }
        return text.toString();
    }

    private static void constants(Check check, Class<HandArchive> face) {
        Set<String> due = new TreeSet<>(Set.of(CONSTANTS));
        for (Field field : face.getDeclaredFields()) {
            int is = field.getModifiers();
            if (!Modifier.isPrivate(is)) {
                check.due("is due: " + field, due.remove(field.getName()), true);
                check.due("is a constant: " + field, Modifier.isPublic(is) && Modifier.isStatic(is)
                        && Modifier.isFinal(is) && field.getType() == int.class, true);
            }
        }
        check.due("missing: " + due, due.size(), 0);
        check.due("NONE", HandArchive.NONE, -1);
        check.due("SIGN", HandArchive.SIGN, 0);
        check.due("SET", HandArchive.SET, 1);
        check.due("POINT", HandArchive.POINT, 2);
        check.due("RELEASE", HandArchive.RELEASE, 3);
        check.due("VERB", HandArchive.VERB, 4);
        check.due("LETTER", HandArchive.LETTER, 5);
    }

    private static void constructors(Check check, Class<HandArchive> face) {
        int open = 0;
        for (Constructor<?> constructor : face.getDeclaredConstructors()) {
            if (!Modifier.isPrivate(constructor.getModifiers())) {
                open++;
                check.due("public: " + constructor, Modifier.isPublic(constructor.getModifiers()), true);
                check.due("without arguments: " + constructor, constructor.getParameterCount(), 0);
            }
        }
        check.due("constructors", open, 1);
    }
}

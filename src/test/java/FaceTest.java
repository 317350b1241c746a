import java.lang.reflect.Constructor;
import java.lang.reflect.Field;
import java.lang.reflect.Method;
import java.lang.reflect.Modifier;
import java.util.Set;
import java.util.TreeSet;

/** The public face: the document's members, and no other that is not private; LANGUAGE.md, rules 1 and 5, on it. */
public final class FaceTest {
    private static final Set<String> METHODS = Set.of(
            "int collect(long)", "int wants(int,int)", "int act(int,int,int)", "int fails(int,int,int)",
            "int make(int)", "boolean drop(int,int)", "long call(int,int,long)", "long again(int,int,long)",
            "int told(int)", "int numbers(int)", "boolean here(int,int)", "long tally(int)", "long row(int)");
    private static final Set<String> PUBLIC_NAMES = Set.of("collect", "wants", "act", "fails", "make", "drop", "call",
            "again", "told", "numbers", "here", "tally", "row");

    public static void main(String[] args) throws Exception {
        Due due = new Due("FaceTest");
        int modifiers = LibraryDesk.class.getModifiers();
        due.is("the class is public and final", Modifier.isPublic(modifiers) && Modifier.isFinal(modifiers), true);
        methods(due);
        fields(due);
        constructors(due);
        classesInside(due);
        due.is("NONE", LibraryDesk.NONE, -1L);
        due.is("REFUSED", LibraryDesk.REFUSED, Long.MIN_VALUE + 1);
        due.is("FAILED", LibraryDesk.FAILED, Long.MIN_VALUE + 2);
        Class<?>[] thrown = LibraryDesk.class.getMethod("row", int.class).getExceptionTypes();
        due.is("row tells its exception",
                thrown.length == 1 && thrown[0] == ArrayIndexOutOfBoundsException.class, true);
        due.end();
    }

    private static void methods(Due due) {
        Set<String> seen = new TreeSet<>();
        for (Method method : LibraryDesk.class.getDeclaredMethods()) {
            if (Modifier.isPrivate(method.getModifiers())) {
                due.is("the private " + shape(method) + " bears a public one's name",
                        PUBLIC_NAMES.contains(method.getName()), false);
            } else {
                seen.add(shape(method));
                due.is(shape(method) + " is public", isPublic(method), true);
            }
        }
        due.is("methods " + seen + " are the document's", seen.equals(METHODS), true);
    }

    static boolean isPublic(Method method) {
        return Modifier.isPublic(method.getModifiers());
    }

    private static String shape(Method method) {
        StringBuilder text = new StringBuilder();
        text.append(method.getReturnType().getName()).append(' ').append(method.getName()).append('(');
        String comma = "";
        for (Class<?> type : method.getParameterTypes()) {
            text.append(comma).append(type.getName());
            comma = ",";
        }
        return text.append(')').toString();
    }

    private static void fields(Due due) {
        Set<String> seen = new TreeSet<>();
        for (Field field : LibraryDesk.class.getDeclaredFields()) {
            due.is(field.getName() + " is static and not final", Modifier.isStatic(field.getModifiers())
                    && !Modifier.isFinal(field.getModifiers()), false);
            if (!Modifier.isPrivate(field.getModifiers())) {
                seen.add(Modifier.toString(field.getModifiers()) + " " + field.getType() + " " + field.getName());
            }
        }
        due.is("fields " + seen + " are the document's", seen.equals(Set.of("public static final int NONE",
                "public static final long REFUSED", "public static final long FAILED")), true);
    }

    private static void constructors(Due due) {
        Constructor<?>[] all = LibraryDesk.class.getDeclaredConstructors();
        due.is("constructors", all.length, 1L);
        due.is("the constructor takes", all[0].getParameterCount(), 0L);
        due.is("the constructor is public", Modifier.isPublic(all[0].getModifiers()), true);
    }

    private static void classesInside(Due due) {
        for (Class<?> inside : LibraryDesk.class.getDeclaredClasses()) {
            int modifiers = inside.getModifiers();
            due.is(inside.getName() + " is static", Modifier.isStatic(modifiers), true);
            due.is(inside.getName() + " is seen outside", Modifier.isPublic(modifiers)
                    || Modifier.isProtected(modifiers), false);
        }
    }
}

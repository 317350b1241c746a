import java.io.IOException;
import java.lang.reflect.InvocationTargetException;
import java.lang.reflect.Method;
import java.nio.charset.StandardCharsets;
import java.nio.file.Files;
import java.nio.file.Path;
import java.util.Set;
import java.util.TreeSet;
import java.util.regex.Matcher;
import java.util.regex.Pattern;

/** README.md tells how to use the class: the calls of its example, in their order, answer what stands behind them. */
public final class ReadmeTest {
    private static final Pattern CALL = Pattern.compile("desk\\.(\\w+)\\(([^)]*)\\); +// ([-\\w]+).*");

    public static void main(String[] args) throws IOException, ReflectiveOperationException {
        Due due = new Due("ReadmeTest");
        LibraryDesk desk = new LibraryDesk();
        Set<String> used = new TreeSet<>();
        for (String line : Files.readAllLines(Path.of("README.md"), StandardCharsets.UTF_8)) {
            Matcher call = CALL.matcher(line);
            if (call.matches()) {
                used.add(call.group(1));
                String got = answer(desk, call.group(1), call.group(2).split(", "));
                due.is(line + " (" + got + ")", got.equals(call.group(3)), true);
            }
        }
        for (Method method : LibraryDesk.class.getDeclaredMethods()) {
            if (FaceTest.isPublic(method)) {
                due.is("the example uses " + method.getName(), used.contains(method.getName()), true);
            }
        }
        due.end();
    }

    private static String answer(LibraryDesk desk, String name, String[] written) throws ReflectiveOperationException {
        Method method = methodOf(name);
        Object[] arguments = new Object[written.length];
        for (int i = 0; i < written.length; i++) {
            boolean isLong = method.getParameterTypes()[i] == long.class;
            arguments[i] = isLong ? (Object) Long.valueOf(written[i].replace("L", "")) : Integer.valueOf(written[i]);
        }
        try {
            return inWords(method.invoke(desk, arguments));
        } catch (InvocationTargetException e) {
            return e.getCause().getClass().getSimpleName();
        }
    }

    private static Method methodOf(String name) {
        for (Method method : LibraryDesk.class.getDeclaredMethods()) {
            if (FaceTest.isPublic(method) && method.getName().equals(name)) {
                return method;
            }
        }
        throw new IllegalArgumentException("README.md uses " + name + ", which the class has not");
    }

    private static String inWords(Object answer) {
        if (answer.equals(LibraryDesk.REFUSED)) {
            return "REFUSED";
        }
        return answer.equals(LibraryDesk.FAILED) ? "FAILED" : answer.toString();
    }
}

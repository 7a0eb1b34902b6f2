import java.io.IOException;
import java.lang.reflect.Method;
import java.lang.reflect.Modifier;
import java.nio.file.Files;
import java.nio.file.Path;
import java.util.Set;
import java.util.TreeSet;
import java.util.regex.Matcher;
import java.util.regex.Pattern;

/** Runs the examples of README.md: each call answers what stands behind it, and no call of the face is left out. */
public final class ReadmeTest {
    private static final Pattern CALL = Pattern.compile("lots\\.(\\w+)\\(([^)]*)\\);\\s+// (\\S+?)(?:[:,] .*| .*)?");

    public static void main(String[] args) throws ReflectiveOperationException, IOException {
        LettersByLot lots = new LettersByLot();
        Set<String> used = new TreeSet<>();
        boolean inside = false;
        for (String line : Files.readAllLines(Path.of("README.md"))) {
            if (line.startsWith("```")) {
                inside = line.equals("```java");
            } else if (inside && !line.startsWith("LettersByLot ")) {
                used.add(runLine(lots, line));
            }
        }
        for (Method method : LettersByLot.class.getDeclaredMethods()) {
            if (Modifier.isPublic(method.getModifiers())) {
                Check.due("README.md uses " + method.getName(), used.contains(method.getName()), true);
            }
        }
        Check.end();
    }

    private static String runLine(LettersByLot lots, String line) throws ReflectiveOperationException {
        Matcher call = CALL.matcher(line);
        if (!call.matches()) {
            Check.due("an example can be read: " + line, false, true);
            return "";
        }
        String[] told = call.group(2).isEmpty() ? new String[0] : call.group(2).split(", ");
        Method method = methodNamed(call.group(1));
        Object[] values = new Object[told.length];
        for (int i = 0; i < told.length; i++) {
            boolean isBoolean = method.getParameterTypes()[i] == boolean.class;
            values[i] = isBoolean ? (Object) Boolean.valueOf(told[i]) : (Object) number(told[i]);
        }
        Object got = method.invoke(lots, values);
        boolean asTold = method.getReturnType() == void.class || got.toString().equals(call.group(3));
        Check.due("answers " + got + ": " + line, asTold, true);
        return method.getName();
    }

    private static Method methodNamed(String name) throws NoSuchMethodException {
        for (Method method : LettersByLot.class.getDeclaredMethods()) {
            if (method.getName().equals(name) && Modifier.isPublic(method.getModifiers())) {
                return method;
            }
        }
        throw new NoSuchMethodException(name);
    }

    /** A number as the examples write it: LettersByLot.NONE, 0b11, 7, or 1 * 3 + 2. */
    private static int number(String told) {
        int sum = 0;
        for (String term : told.split(" \\+ ")) {
            int product = 1;
            for (String factor : term.split(" \\* ")) {
                product *= factor.equals("LettersByLot.NONE") ? LettersByLot.NONE
                        : factor.startsWith("0b") ? Integer.parseInt(factor.substring(2), 2) : Integer.parseInt(factor);
            }
            sum += product;
        }
        return sum;
    }
}

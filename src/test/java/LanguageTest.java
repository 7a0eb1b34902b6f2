import java.io.IOException;
import java.lang.reflect.Constructor;
import java.lang.reflect.Field;
import java.lang.reflect.Method;
import java.lang.reflect.Modifier;
import java.nio.file.Files;
import java.nio.file.Path;
import java.util.Set;
import java.util.TreeSet;
import java.util.regex.Matcher;
import java.util.regex.Pattern;

/** The public face of the document, and the rules of LANGUAGE.md that can be read off the class or its text. */
public final class LanguageTest {
    private static final Set<String> FACE = Set.of(
            "int source(int, int, int, int, int)", "boolean word(int, int, int)", "boolean drop(int)",
            "int tell(int, int)", "int laps(int, int)", "boolean within(int, int)", "boolean lead(int, int)",
            "boolean wait(int, int)", "boolean first(int, int)", "boolean odds(int, int)", "int best(int)",
            "void cover()", "boolean won(int)", "long top()", "long bottom()", "long times(int, int, int, boolean)",
            "long never(int, int)", "long covered(int)", "int draw(int, int)", "int add(int)", "int letter(int)",
            "int came(int, int)");
    private static final Pattern BANNED = Pattern.compile(
            "\\b(throw|throws|try|catch|synchronized|assert|Object|Exception|hashCode|toString|\\w+Exact|var)\\b|->|::");

    public static void main(String[] args) throws IOException {
        Class<?> face = LettersByLot.class;
        Check.due("rule 1: public and final", Modifier.isPublic(face.getModifiers())
                && Modifier.isFinal(face.getModifiers()), true);
        methods(face);
        fields(face);
        for (Constructor<?> constructor : face.getDeclaredConstructors()) {
            Check.due("rule 1: " + constructor, Modifier.isPublic(constructor.getModifiers())
                    && constructor.getParameterCount() == 0, true);
        }
        nested(face);
        sizes(face);
        text();
        Check.end();
    }

    private static void methods(Class<?> face) {
        Set<String> found = new TreeSet<>();
        Set<String> names = new TreeSet<>();
        for (Method method : face.getDeclaredMethods()) {
            if (!Modifier.isPrivate(method.getModifiers())) {
                found.add(told(method));
                names.add(method.getName());
                Check.due("rule 1: " + method, Modifier.isPublic(method.getModifiers())
                        && !Modifier.isStatic(method.getModifiers()), true);
            }
        }
        Check.due("the face is " + found, found.equals(FACE), true);
        for (Method method : face.getDeclaredMethods()) {
            if (Modifier.isPrivate(method.getModifiers())) {
                Check.due("rule 1: the name of " + method, names.contains(method.getName()), false);
            }
        }
    }

    private static String told(Method method) {
        StringBuilder text = new StringBuilder(method.getReturnType().getSimpleName() + " " + method.getName() + "(");
        for (Class<?> type : method.getParameterTypes()) {
            text.append(text.charAt(text.length() - 1) == '(' ? "" : ", ").append(type.getSimpleName());
        }
        return text.append(")").toString();
    }

    private static void fields(Class<?> type) {
        for (Field field : type.getDeclaredFields()) {
            boolean isConstant = type == LettersByLot.class && field.getName().equals("NONE");
            if (type == LettersByLot.class) {
                Check.due("rule 1: " + field, Modifier.isPrivate(field.getModifiers()), !isConstant);
            }
            if (Modifier.isStatic(field.getModifiers())) {
                Check.due("rule 5: " + field, Modifier.isFinal(field.getModifiers()), true);
            }
        }
    }

    private static void nested(Class<?> face) {
        Check.due("rule 11: classes", face.getDeclaredClasses().length < 12, true);
        for (Class<?> type : face.getDeclaredClasses()) {
            int modifiers = type.getModifiers();
            Check.due("rules 1 and 2: " + type, Modifier.isStatic(modifiers)
                    && !Modifier.isPublic(modifiers) && !Modifier.isProtected(modifiers), true);
            fields(type);
        }
    }

    private static void sizes(Class<?> type) {
        int fields = 0;
        for (Field field : type.getDeclaredFields()) {
            fields += Modifier.isStatic(field.getModifiers()) ? 0 : 1;
        }
        Check.due("rule 11: fields of " + type, fields <= 20, true);
        for (Method method : type.getDeclaredMethods()) {
            Check.due("rule 11: parameters of " + method, method.getParameterCount() <= 7, true);
        }
        for (Class<?> inside : type.getDeclaredClasses()) {
            sizes(inside);
        }
    }

    private static void text() throws IOException {
        String text = Files.readString(Path.of("src/main/java/LettersByLot.java"));
        String code = text.replaceAll("(?s)/\\*.*?\\*/", " ").replaceAll("//[^\n]*", " ");
        Matcher banned = BANNED.matcher(code);
        while (banned.find()) {
            Check.due("rule 4 or 6: " + banned.group(), 1, 0);
        }
        Matcher imported = Pattern.compile("import ([^;]*);").matcher(code);
        while (imported.find()) {
            Check.due("rule 4: import " + imported.group(1), imported.group(1).equals("java.util.Arrays"), true);
        }
        Check.due("no package line", code.contains("package "), false);
    }
}

import java.io.IOException;
import java.lang.reflect.Constructor;
import java.lang.reflect.Field;
import java.lang.reflect.Method;
import java.lang.reflect.Modifier;
import java.nio.file.Files;
import java.nio.file.Path;
import java.util.ArrayList;
import java.util.Arrays;
import java.util.List;
import java.util.regex.Matcher;
import java.util.regex.Pattern;

/** The rules of LANGUAGE.md that can be read off the source and the compiled classes. */
public final class LanguageTest {
    private static final Path SOURCE = Path.of("src/main/java/CostumeStock.java");
    private static final String[] LEFT_OUT = {
        "package", "import", "protected", "throw", "throws", "try", "catch", "finally", "synchronized", "assert",
        "hashCode", "equals", "toString", "System", "Thread", "Random", "Object", "double", "float", "native",
        "volatile", "transient",
    };
    private static final List<String> LIBRARY = List.of("Math.abs", "Math.max", "Math.min");
    private static final int MOST_CLASSES = 12;
    private static final int MOST_FIELDS = 20;
    private static final int MOST_PARAMETERS = 7;
    private static final int MOST_LINES = 60;

    public static void main(String[] args) throws IOException {
        String code = withoutComments(Files.readString(SOURCE));
        wordsLeftOut(code);
        libraryIsAsListed(code);
        methodsAreShort(code);
        List<Class<?>> classes = new ArrayList<>(Arrays.asList(CostumeStock.class.getDeclaredClasses()));
        classesInsideAreStaticAndHidden(classes);
        classes.add(CostumeStock.class);
        isTrue("rule 11: " + classes.size() + " classes", classes.size() <= MOST_CLASSES);
        for (Class<?> one : classes) {
            fieldsAreFewAndNoneIsShared(one);
            parametersAreFew(one);
        }
        Due.end();
    }

    private static void isTrue(String rule, boolean holds) {
        Due.answer(rule, holds ? 1 : 0, 1);
    }

    private static String withoutComments(String source) {
        return source.replaceAll("(?s)/\\*.*?\\*/", "").replaceAll("//[^\n]*", "");
    }

    /** Rules 2, 3, 4, 6, 13. */
    private static void wordsLeftOut(String code) {
        for (String word : LEFT_OUT) {
            isTrue("rules 2 to 6: without " + word, !Pattern.compile("\\b" + word + "\\b").matcher(code).find());
        }
        isTrue("rule 2: without lambdas", !code.contains("->"));
        isTrue("rule 2: without references to methods", !code.contains("::"));
        isTrue("rule 5: without static blocks", !Pattern.compile("\\bstatic\\s*\\{").matcher(code).find());
        Pattern cast = Pattern.compile("\\((int|long|short|byte|char|[A-Z]\\w*)\\) ?[\\w(]");
        isTrue("rule 6: without casts", !cast.matcher(code).find());
        isTrue("rule 10: without texts", code.indexOf('"') < 0);
    }

    /** Rule 4. */
    private static void libraryIsAsListed(String code) {
        Matcher use = Pattern.compile("\\b(Math|Integer|Long|Arrays|String|List|Character)\\.\\w+").matcher(code);
        while (use.find()) {
            isTrue("rule 4: " + use.group(), LIBRARY.contains(use.group()));
        }
    }

    /** Rule 11: "Methods stay short (some sixty lines)". */
    private static void methodsAreShort(String code) {
        String[] lines = code.split("\n");
        int start = -1;
        String end = "";
        for (int k = 0; k < lines.length; k++) {
            boolean isMethod = lines[k].matches(" {4,8}[^ ].*\\) \\{");
            if (start < 0 && isMethod) {
                start = k;
                end = lines[k].replaceAll("[^ ].*", "") + "}";
            } else if (start >= 0 && lines[k].equals(end)) {
                isTrue("rule 11: " + lines[start].trim() + " is " + (k - start + 1) + " lines", k - start < MOST_LINES);
                start = -1;
            }
        }
        isTrue("rule 11: the last method has an end", start < 0);
    }

    /** Rules 1 and 2. */
    private static void classesInsideAreStaticAndHidden(List<Class<?>> classes) {
        for (Class<?> one : classes) {
            int how = one.getModifiers();
            isTrue("rule 2: " + one.getSimpleName() + " is static", Modifier.isStatic(how));
            isTrue("rule 1: " + one.getSimpleName() + " is hidden", !Modifier.isPublic(how) && !Modifier.isProtected(how));
            isTrue("rule 2: nothing is inside " + one.getSimpleName(), one.getDeclaredClasses().length == 0);
        }
    }

    /** Rules 5 and 11. */
    private static void fieldsAreFewAndNoneIsShared(Class<?> one) {
        int own = 0;
        for (Field field : one.getDeclaredFields()) {
            boolean isStatic = Modifier.isStatic(field.getModifiers());
            own += isStatic ? 0 : 1;
            isTrue("rule 5: " + field.getName() + ", if static, is a constant",
                !isStatic || Modifier.isFinal(field.getModifiers()) && field.getType().isPrimitive());
        }
        isTrue("rule 11: " + own + " fields of " + one.getSimpleName(), own <= MOST_FIELDS);
    }

    /** Rule 11. */
    private static void parametersAreFew(Class<?> one) {
        for (Method method : one.getDeclaredMethods()) {
            isTrue("rule 11: parameters of " + method.getName(), method.getParameterCount() <= MOST_PARAMETERS);
        }
        for (Constructor<?> made : one.getDeclaredConstructors()) {
            isTrue("rule 11: parameters of " + one.getSimpleName(), made.getParameterCount() <= MOST_PARAMETERS);
        }
    }
}

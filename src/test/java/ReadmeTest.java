import java.io.IOException;
import java.lang.reflect.Method;
import java.lang.reflect.Modifier;
import java.nio.file.Files;
import java.nio.file.Path;
import java.util.regex.Matcher;
import java.util.regex.Pattern;

/** The calls that README.md shows give the answers that it shows. Runs in the project's folder. */
public final class ReadmeTest {
    private static final Pattern CALL = Pattern.compile("(?m)^bureau\\.(\\w+)\\((.*?)\\); +// (-?\\d+): .*$");
    private static final Due DUE = new Due("ReadmeTest");

    public static void main(String[] args) throws IOException, ReflectiveOperationException {
        String readme = Files.readString(Path.of("README.md"));
        int from = readme.indexOf("```java\n");
        int until = readme.indexOf("```", from + 3);
        DUE.holds("there is a run of calls", from >= 0 && until > from);
        if (!DUE.anyWrong()) {
            play(readme.substring(from, until).trim());
        }
        everyMethod(readme.replaceAll("(?s)```.*?```", ""));
        DUE.end();
    }

    private static void play(String run) throws ReflectiveOperationException {
        BorderStamps bureau = new BorderStamps();
        Matcher calls = CALL.matcher(run);
        // The fence and the line that makes the bureau are no calls.
        long due = run.lines().count() - 2;
        while (calls.find()) {
            due--;
            DUE.is(calls.group(1) + "(" + calls.group(2) + ")", answer(bureau, calls.group(1), calls.group(2)),
                Integer.parseInt(calls.group(3)));
        }
        DUE.is("lines that can't be read", due, 0);
    }

    private static int answer(BorderStamps bureau, String name, String list) throws ReflectiveOperationException {
        String[] texts = list.isEmpty() ? new String[0] : list.split(", ");
        Object[] values = new Object[texts.length];
        for (int i = 0; i < texts.length; i++) {
            values[i] = value(texts[i]);
        }
        return (int) method(name).invoke(bureau, values);
    }

    private static Object value(String text) {
        if (text.startsWith("'")) {
            return text.charAt(1);
        }
        return text.matches("true|false") ? (Object) Boolean.valueOf(text) : (Object) Integer.valueOf(text);
    }

    private static Method method(String name) throws NoSuchMethodException {
        for (Method method : BorderStamps.class.getDeclaredMethods()) {
            if (method.getName().equals(name)) {
                return method;
            }
        }
        throw new NoSuchMethodException(name);
    }

    private static void everyMethod(String words) {
        for (Method method : BorderStamps.class.getDeclaredMethods()) {
            if (Modifier.isPublic(method.getModifiers())) {
                Matcher shown = Pattern.compile("\\| .*`" + method.getName() + "\\(([\\w, ]*)\\)`.* \\|").matcher(words);
                DUE.holds(method.getName() + "() stands in the table", shown.find());
                if (!DUE.anyWrong()) {
                    String list = shown.group(1);
                    DUE.is("parameters of " + method.getName() + "() in the table",
                        list.isEmpty() ? 0 : list.split(", ").length, method.getParameterCount());
                }
            }
        }
    }
}

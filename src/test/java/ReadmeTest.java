import java.io.IOException;
import java.lang.reflect.InvocationTargetException;
import java.lang.reflect.Method;
import java.lang.reflect.Modifier;
import java.nio.file.Files;
import java.nio.file.Path;
import java.util.TreeSet;
import java.util.regex.Matcher;
import java.util.regex.Pattern;

/** Makes every call that README.md shows, and looks for the answer that stands behind it there. */
public final class ReadmeTest {
    private static final Check CHECK = new Check("ReadmeTest");
    private static final String NEW_DESK = "MappingDesk desk = new MappingDesk();";
    private static final Pattern CALL =
            Pattern.compile("desk\\.(\\w+)\\((.*)\\); +// (throws \\w+|true|false|NONE|-?\\d+)(?:: (.*))?");
    private static final Pattern TEXT = Pattern.compile("the text is \"(.*)\"");

    private static final TreeSet<String> ANSWERED = new TreeSet<>();
    private static final TreeSet<String> REFUSED = new TreeSet<>();
    private static MappingDesk desk;

    public static void main(String[] args) throws IOException, IllegalAccessException {
        String readme = Files.readString(Path.of("README.md"));
        boolean isCode = false;
        for (String line : readme.split("\n")) {
            if (line.startsWith("```")) {
                isCode = line.equals("```java");
                desk = null;
            } else if (isCode) {
                follow(line.trim());
            }
        }
        showsEveryCall(readme);
        CHECK.due("the command for all tests is told", readme.contains("\n    .ci/run\n"), true);
        CHECK.finish();
    }

    private static void follow(String line) throws IllegalAccessException {
        if (line.isEmpty() || line.startsWith("//")) {
            return;
        }
        if (line.equals(NEW_DESK)) {
            desk = new MappingDesk();
            return;
        }
        Matcher shown = CALL.matcher(line);
        // A line that can't be followed would be shown without a test.
        boolean isCall = desk != null && shown.matches();
        CHECK.due("can be followed: " + line, isCall, true);
        if (isCall) {
            call(line, shown);
        }
    }

    private static void call(String line, Matcher shown) throws IllegalAccessException {
        String due = shown.group(3).equals("NONE") ? "-1" : shown.group(3);
        String note = shown.group(4) == null ? "" : shown.group(4);
        CHECK.due(line, answer(shown.group(1), shown.group(2)), due);
        boolean isRefused = due.startsWith("-") || due.startsWith("throws") || due.equals("false");
        (isRefused ? REFUSED : ANSWERED).add(shown.group(1));
        Matcher text = TEXT.matcher(note);
        if (text.matches()) {
            CHECK.due(line, Check.wholeText(desk), text.group(1));
        }
    }

    private static String answer(String name, String list) throws IllegalAccessException {
        String[] texts = list.isEmpty() ? new String[0] : list.split(", ");
        Object[] arguments = new Object[texts.length];
        for (int i = 0; i < texts.length; i++) {
            arguments[i] = texts[i].equals("MappingDesk.NONE") ? MappingDesk.NONE : Integer.decode(texts[i]);
        }
        try {
            return String.valueOf(method(name).invoke(desk, arguments));
        } catch (InvocationTargetException thrown) {
            return "throws " + thrown.getCause().getClass().getSimpleName();
        }
    }

    private static Method method(String name) {
        for (Method method : MappingDesk.class.getDeclaredMethods()) {
            if (method.getName().equals(name)) {
                return method;
            }
        }
        throw new IllegalArgumentException("README.md shows a call that there is none of: " + name);
    }

    private static void showsEveryCall(String readme) {
        for (Method method : MappingDesk.class.getDeclaredMethods()) {
            if (Modifier.isPublic(method.getModifiers())) {
                String name = method.getName();
                CHECK.due("a row of the table tells " + name, readme.contains("\n| `" + name + "("), true);
                CHECK.due("an answer is shown of " + name, ANSWERED.contains(name), true);
                // A refused feed would take 150 feeds to show; TapeTest and RefusedTest make them.
                boolean canBeShownRefused = !name.equals("feed") && !name.equals("fault") && !name.equals("compose");
                CHECK.due("a refusal is shown of " + name, REFUSED.contains(name), canBeShownRefused);
            }
        }
    }
}

import java.lang.reflect.Method;
import java.lang.reflect.Modifier;
import java.nio.file.Files;
import java.nio.file.Path;
import java.util.List;
import java.util.regex.Matcher;
import java.util.regex.Pattern;

/** README.md shows calls with their answers: they are made as they stand there, and no call of the face is left out. */
public final class ReadmeTest {
    private static final Check CHECK = new Check("ReadmeTest");
    private static final Pattern MAKES = Pattern.compile("AimFerry f = new AimFerry\\(\\);");
    private static final Pattern FEEDS = Pattern.compile("Check\\.feed\\(f, \"([^\"]*)\"\\);");
    private static final Pattern CALLS = Pattern.compile("f\\.(\\w+)\\(([^)]*)\\); // (-?\\d+)(:.*)?");

    private static AimFerry ferry;
    private static int calls = 0;

    public static void main(String[] args) throws Exception {
        String readme = Files.readString(Path.of("README.md"));
        boolean inJava = false;
        for (String line : readme.split("\n")) {
            if (line.startsWith("```")) {
                inJava = line.equals("```java");
            } else if (inJava) {
                follow(line);
            }
        }
        CHECK.due("calls are found", calls > 20 ? 1 : 0, 1);
        for (Method method : AimFerry.class.getDeclaredMethods()) {
            if (Modifier.isPublic(method.getModifiers())) {
                CHECK.due(method.getName() + " stands in the table", inTable(readme, method) ? 1 : 0, 1);
            }
        }
        testsAreNamed(readme);
        CHECK.finish();
    }

    private static void follow(String line) throws Exception {
        Matcher feeds = FEEDS.matcher(line);
        Matcher call = CALLS.matcher(line);
        if (MAKES.matcher(line).matches()) {
            ferry = new AimFerry();
        } else if (feeds.matches()) {
            Check.feed(ferry, feeds.group(1));
        } else if (call.matches()) {
            calls++;
            CHECK.due(line, answer(call.group(1), call.group(2)), Integer.parseInt(call.group(3)));
        } else {
            CHECK.due("a line that is no call: " + line, 0, 1);
        }
    }

    private static int answer(String name, String list) throws Exception {
        String[] texts = list.isEmpty() ? new String[0] : list.split(", *");
        Class<?>[] types = new Class<?>[texts.length];
        Object[] arguments = new Object[texts.length];
        for (int k = 0; k < texts.length; k++) {
            types[k] = int.class;
            arguments[k] = Integer.decode(texts[k]);
        }
        return (Integer) AimFerry.class.getMethod(name, types).invoke(ferry, arguments);
    }

    /** Whether a call stands in the table's first column, with as many arguments as it takes. */
    private static boolean inTable(String readme, Method method) {
        Matcher row = Pattern.compile("\n\\| [^|]*`" + method.getName() + "\\(([^)|]*)\\)`").matcher(readme);
        if (!row.find()) {
            return false;
        }
        int arguments = row.group(1).isEmpty() ? 0 : row.group(1).split(",").length;
        return arguments == method.getParameterCount();
    }

    private static void testsAreNamed(String readme) throws Exception {
        try (var files = Files.list(Path.of("src/test/java"))) {
            List<String> names = files.map(file -> file.getFileName().toString()).toList();
            for (String name : names) {
                if (name.endsWith("Test.java")) {
                    String plain = name.substring(0, name.length() - ".java".length());
                    CHECK.due(plain + " is named", readme.contains("`" + plain + "`") ? 1 : 0, 1);
                }
            }
        }
    }
}

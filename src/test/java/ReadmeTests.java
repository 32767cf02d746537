import java.io.IOException;
import java.lang.reflect.InvocationTargetException;
import java.lang.reflect.Method;
import java.lang.reflect.Modifier;
import java.net.URL;
import java.net.URLClassLoader;
import java.nio.file.Files;
import java.nio.file.Path;
import java.util.regex.Matcher;
import java.util.regex.Pattern;
import javax.tools.ToolProvider;

/** README.md's example does what it says, and no call is left out. .ci/run starts it in the project's folder. */
public final class ReadmeTests {
    private static final Pattern ROW = Pattern.compile("(?:(int|long|boolean) (\\w+) = )?(hall\\..*);\\s*// (-?\\d+|true|false|HundiHall\\.\\w+)(?:: .*)?");

    public static void main(String[] args) throws IOException, ReflectiveOperationException {
        Check check = new Check();
        check.part("README.md");
        String text = Files.readString(Path.of("README.md"));
        Matcher example = Pattern.compile("(?s)```java\n(.*?)```").matcher(text);
        check.due("there is an example", example.find(), true);
        run(check, example.group(1));
        for (Method method : HundiHall.class.getDeclaredMethods()) {
            if (Modifier.isPublic(method.getModifiers())) {
                check.due("the table names " + method.getName(), text.contains("\n| `" + method.getName() + "("), true);
            }
        }
        check.due("how to run the tests", text.contains("\n.ci/run\n"), true);
        for (Path test : Files.newDirectoryStream(Path.of("src/test/java"), "*Tests.java")) {
            String name = test.getFileName().toString().replace(".java", "");
            check.due("what " + name + " is", text.contains("`" + name + "`"), true);
        }
        check.end("ReadmeTests");
    }

    /** Makes a class of the example, in which each answer that a comment tells is asked for, and runs it. */
    private static void run(Check check, String example) throws IOException, ReflectiveOperationException {
        StringBuilder body = new StringBuilder();
        int answers = 0;
        for (String row : example.split("\n")) {
            Matcher told = ROW.matcher(row);
            if (!told.matches()) {
                body.append(row).append('\n');
                continue;
            }
            answers++;
            String asked = told.group(3);
            if (told.group(1) != null) {
                body.append(told.group(1)).append(' ').append(told.group(2)).append(" = ").append(asked).append(";\n");
                asked = told.group(2);
            }
            body.append("wrong += (").append(asked).append(") == ").append(told.group(4)).append(" ? \"\" : \"")
                    .append(told.group(3)).append("; \";\n");
        }
        check.due("answers in the example (" + answers + ")", answers > 10, true);
        check.due("answers in the example that are not due", answersNotDue(body.toString()), "");
    }

    private static String answersNotDue(String body) throws IOException, ReflectiveOperationException {
        Path folder = Files.createDirectories(Path.of("build", "readme-example"));
        Path source = folder.resolve("Example.java");
        Files.writeString(source, "public final class Example {\n    public static String play() {\n        String wrong = \"\";\n"
                + body + "        return wrong;\n    }\n}\n");
        int failed = ToolProvider.getSystemJavaCompiler().run(null, null, null, "-cp",
                System.getProperty("java.class.path"), "-d", folder.toString(), source.toString());
        if (failed != 0) {
            return "the example does not compile";
        }
        try (URLClassLoader loader = new URLClassLoader(new URL[] {folder.toUri().toURL()})) {
            return (String) loader.loadClass("Example").getMethod("play").invoke(null);
        } catch (InvocationTargetException e) {
            return "the example throws " + e.getCause();
        }
    }
}

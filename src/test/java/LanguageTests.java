import java.io.IOException;
import java.lang.reflect.Field;
import java.lang.reflect.Method;
import java.lang.reflect.Modifier;
import java.nio.file.Files;
import java.nio.file.Path;
import java.util.ArrayList;
import java.util.Arrays;
import java.util.List;
import java.util.Map;
import java.util.TreeMap;
import java.util.regex.Matcher;
import java.util.regex.Pattern;

/** What of LANGUAGE.md can be seen in the class, by its text or by reflection. .ci/run starts it in the project's folder. */
public final class LanguageTests {
    private static final String[] FORBIDDEN = {
        "\\bpackage\\b", "\\bimport\\b", "->", "::", "\\bcatch\\b", "\\bfinally\\b", "\\bsynchronized\\b",
        "\\bassert\\b", "\\bsystem\\.", "\\bthread\\b", "\\brandom\\b", "Exact\\(", "\\bdouble\\b", "\\bfloat\\b",
        "\\binstanceof\\b", "\\bprotected\\b", "\\bgetMessage\\b", "\\bextends\\b", "\\bvar\\b",
        "equals\\(", "hashCode\\(", "toString\\(", "static \\{",
    };

    /** A method or constructor as it stands in the text. */
    private static final class Part {
        final String name;
        final boolean isConstructor;
        final StringBuilder body = new StringBuilder();
        int lines;

        Part(String name, boolean isConstructor) {
            this.name = name;
            this.isConstructor = isConstructor;
        }
    }

    private static final Check check = new Check();

    public static void main(String[] args) throws IOException {
        check.part("language");
        String text = Files.readString(Path.of("src/main/java/HundiHall.java"));
        String code = text.replaceAll("(?s)/\\*.*?\\*/", "").replaceAll("//[^\n]*", "").replaceAll("\"[^\"\n]*\"", "\"\"");
        for (String forbidden : FORBIDDEN) {
            check.due(forbidden, Pattern.compile(forbidden, Pattern.CASE_INSENSITIVE).matcher(code).find(), false);
        }
        check.due("characters above 127", text.chars().allMatch(c -> c < 128), true);
        check.due("texts that are joined by +", Pattern.compile("\"\"\\s*\\+|\\+\\s*\"\"").matcher(code).find(), false);
        check.due("exceptions that are no written ones",
                Pattern.compile("throw (?!new (IndexOutOfBounds|IllegalArgument|IllegalState)Exception\\(\"\"\\);)")
                        .matcher(code).find(), false);
        check.due("while loops", Pattern.compile("\\bwhile\\b").matcher(code).find(), false);
        check.due("what is called of the library", library(code), "Math.min");
        List<Part> parts = partsOf(code);
        methods(parts, code);
        depths(parts);
        objects(parts);
        loops(parts);
        classes();
        check.end("LanguageTests");
    }

    private static String library(String code) {
        StringBuilder all = new StringBuilder();
        Matcher call = Pattern.compile("\\b([A-Z][a-z]\\w*\\.\\w+)\\(").matcher(code);
        while (call.find()) {
            if (all.indexOf(call.group(1)) < 0) {
                all.append(all.length() == 0 ? "" : " ").append(call.group(1));
            }
        }
        return all.toString();
    }

    private static List<Part> partsOf(String code) {
        Pattern head = Pattern.compile("^( {4}| {8})((?:(?:public|private|static) )*(?:(?!return|new|else)[\\w\\[\\]]+ )?)(\\w+)\\(.*");
        List<Part> parts = new ArrayList<>();
        Part open = null;
        String end = "";
        for (String row : code.split("\n")) {
            Matcher found = head.matcher(row);
            if (open == null && found.matches() && !row.endsWith(";")) {
                String before = found.group(2).replaceAll("\\b(public|private|static) ", "");
                open = new Part(found.group(3), before.isEmpty());
                end = found.group(1) + "}";
                parts.add(open);
                // The head itself is no call.
                row = row.substring(found.end(3) + 1);
            }
            if (open != null) {
                open.body.append(row).append('\n');
                open.lines++;
                open = row.equals(end) ? null : open;
            }
        }
        return parts;
    }

    /** Methods of at most sixty lines and seven parameters. */
    private static void methods(List<Part> parts, String code) {
        int longest = 0;
        for (Part part : parts) {
            longest = Math.max(longest, part.lines);
        }
        check.due("methods were found (" + parts.size() + ")", parts.size() > 70, true);
        check.due("longest method is short (" + longest + ")", longest > 0 && longest <= 60, true);
        Matcher parameters = Pattern.compile("\\b\\w+ \\w+\\(((\\w+(\\[])* \\w+(, )?)+)\\)").matcher(code);
        int most = 0;
        while (parameters.find()) {
            most = Math.max(most, parameters.group(1).split(",").length);
        }
        check.due("most parameters (" + most + ")", most > 0 && most <= 7, true);
    }

    /** No recursion, and calls at most eight deep. */
    private static void depths(List<Part> parts) {
        Map<String, Part> byName = new TreeMap<>();
        for (Part part : parts) {
            if (!part.isConstructor) {
                check.due("a second method " + part.name, byName.put(part.name, part) != null, false);
            }
        }
        int deepest = 0;
        for (Part part : parts) {
            deepest = Math.max(deepest, depth(part, byName, 1));
        }
        check.due("calls are at most eight deep (" + deepest + ")", deepest > 1 && deepest <= 8, true);
    }

    private static int depth(Part part, Map<String, Part> byName, int depth) {
        int deepest = depth;
        Matcher call = Pattern.compile("\\b(\\w+)\\(").matcher(part.body);
        while (call.find() && depth < 20) {
            Part called = byName.get(call.group(1));
            if (called != null) {
                deepest = Math.max(deepest, depth(called, byName, depth + 1));
            }
        }
        return deepest;
    }

    /** All calls of a run live in one room: no method makes an object or an array, but for exceptions. */
    private static void objects(List<Part> parts) {
        for (Part part : parts) {
            boolean makes = Pattern.compile("(?<!throw )\\bnew\\b").matcher(part.body).find();
            check.due(part.name + " makes objects", makes && !part.isConstructor, false);
            check.due(part.name + " throws in a constructor", part.isConstructor && part.body.indexOf("throw ") >= 0, false);
        }
    }

    /** Each loop counts from a number up to a bound. */
    private static void loops(List<Part> parts) {
        Pattern counted = Pattern.compile("for \\(int (\\w+) = [^;]+; \\1 < [^;]+; \\1\\+\\+\\) \\{");
        for (Part part : parts) {
            for (String row : part.body.toString().split("\n")) {
                if (row.trim().startsWith("for")) {
                    check.due(part.name + ": " + row.trim(), counted.matcher(row.trim()).matches(), true);
                }
            }
        }
    }

    private static void classes() {
        List<Class<?>> all = new ArrayList<>(List.of(HundiHall.class.getDeclaredClasses()));
        all.add(HundiHall.class);
        check.due("classes (" + all.size() + ")", all.size() <= 12, true);
        List<String> publicNames = new ArrayList<>();
        for (Method method : HundiHall.class.getDeclaredMethods()) {
            if (Modifier.isPublic(method.getModifiers())) {
                publicNames.add(method.getName());
            }
        }
        for (Class<?> one : all) {
            long fields = Arrays.stream(one.getDeclaredFields()).filter(f -> !Modifier.isStatic(f.getModifiers())).count();
            check.due(one.getSimpleName() + "'s fields (" + fields + ")", fields <= 20, true);
            for (Field field : one.getDeclaredFields()) {
                check.due(one.getSimpleName() + "." + field.getName() + "'s type", isTypeThatMayBe(field.getType(), all), true);
                boolean isStaticState = Modifier.isStatic(field.getModifiers()) && !Modifier.isFinal(field.getModifiers());
                check.due(one.getSimpleName() + "." + field.getName() + " is static state", isStaticState, false);
            }
            for (Method method : one.getDeclaredMethods()) {
                boolean isPublic = Modifier.isPublic(method.getModifiers());
                check.due(method.getName() + " bears a public name", !isPublic && publicNames.contains(method.getName()), false);
            }
        }
    }

    /** A number, a boolean or a class of the file, an array of these, or one of two dimensions of numbers. */
    private static boolean isTypeThatMayBe(Class<?> type, List<Class<?>> own) {
        if (!type.isArray()) {
            return type.isPrimitive() || own.contains(type);
        }
        Class<?> element = type.getComponentType();
        if (!element.isArray()) {
            return element.isPrimitive() || own.contains(element);
        }
        return element.getComponentType().isPrimitive() && element.getComponentType() != boolean.class;
    }
}

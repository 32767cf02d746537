import java.io.IOException;
import java.nio.file.Files;
import java.nio.file.Path;
import java.util.regex.Matcher;
import java.util.regex.Pattern;

/** What of LANGUAGE.md can be seen in the text of the class. .ci/run starts it in the project's folder. */
public final class LanguageTests {
    private static final String[] FORBIDDEN = {
        "\\bpackage\\b", "\\bimport\\b", "->", "::", "\\bcatch\\b", "\\bfinally\\b", "\\bsynchronized\\b",
        "\\bassert\\b", "\\bsystem\\.", "\\bthread\\b", "\\brandom\\b", "Exact\\(", "\\bdouble\\b", "\\bfloat\\b",
        "\\binstanceof\\b", "\\bprotected\\b", "\\bgetMessage\\b", "\\bextends\\b", "\\bvar\\b",
        "equals\\(", "hashCode\\(", "toString\\(", "static \\{",
    };

    public static void main(String[] args) throws IOException {
        Check check = new Check();
        check.part("language");
        String text = Files.readString(Path.of("src/main/java/HundiHall.java"));
        String code = text.replaceAll("(?s)/\\*.*?\\*/", "").replaceAll("//[^\n]*", "").replaceAll("\"[^\"\n]*\"", "\"\"");
        for (String forbidden : FORBIDDEN) {
            check.due(forbidden, Pattern.compile(forbidden, Pattern.CASE_INSENSITIVE).matcher(code).find(), false);
        }
        check.due("characters above 127", text.chars().allMatch(c -> c < 128), true);
        check.due("texts that are joined by +", Pattern.compile("\"\"\\s*\\+|\\+\\s*\"\"").matcher(code).find(), false);
        check.due("exceptions that are no written ones",
                Pattern.compile("throw (?!new (IndexOutOfBounds|IllegalArgument|IllegalState)Exception\\(\"\"\\);)")
                        .matcher(code).find(), false);
        check.due("while loops", Pattern.compile("\\bwhile\\b").matcher(code).find(), false);
        lengths(check, code);
        check.end("LanguageTests");
    }

    /** Methods of at most sixty lines and seven parameters, at most twelve classes. */
    private static void lengths(Check check, String code) {
        int line = 0;
        int start = 0;
        int longest = 0;
        int indent = 0;
        for (String row : code.split("\n")) {
            line++;
            Matcher head = Pattern.compile("^( {4}| {8})(public |private |static |[a-z]+(\\[])* )+\\w+\\(.*").matcher(row);
            if (head.matches() && !row.endsWith(";")) {
                start = line;
                indent = head.group(1).length();
            } else if (start > 0 && row.equals(" ".repeat(indent) + "}")) {
                longest = Math.max(longest, line - start + 1);
                start = 0;
            }
        }
        check.due("longest method is short (" + longest + ")", longest > 0 && longest <= 60, true);
        Matcher parameters = Pattern.compile("\\b\\w+ \\w+\\(((\\w+(\\[])* \\w+(, )?)+)\\)").matcher(code);
        int most = 0;
        while (parameters.find()) {
            most = Math.max(most, parameters.group(1).split(",").length);
        }
        check.due("most parameters (" + most + ")", most > 0 && most <= 7, true);
        int classes = 0;
        Matcher found = Pattern.compile("\\b(class|record|enum|interface) \\w+").matcher(code);
        while (found.find()) {
            classes++;
        }
        check.due("classes (" + classes + ")", classes > 0 && classes <= 12, true);
    }
}

import java.io.IOException;
import java.nio.file.Files;
import java.nio.file.Path;
import java.util.regex.Matcher;
import java.util.regex.Pattern;

/** The rules of LANGUAGE.md that can be seen in the text of the program. */
public final class LanguageTest {
    private static final Path SOURCE = Path.of("src/main/java/SpellTables.java");
    private static final int MOST_LINES = 60;
    private static final int MOST_PARAMETERS = 7;

    // what the program does without: some of it is forbidden, the rest is not needed
    private static final String[] WITHOUT = {
        "\\b(package|import|throw|throws|try|catch|finally|synchronized|assert|instanceof)\\b",
        "\\b(protected|volatile|native|transient|goto|yield|var)\\b",
        "\\b(Exception|Error|System|Thread|Random|Object|Class|hashCode|toString|equals)\\b",
        "\\b(double|float)\\b", "->", "::", "@", "\\w+Exact\\b", "static\\s*\\{",
        "while\\s*\\(\\s*true", "for\\s*\\(\\s*;\\s*;", "\\bnew\\s+\\w+\\s*\\([^()]*\\)\\s*\\{"};

    private static int wrong = 0;

    private static void say(String what) {
        wrong++;
        System.out.println(what);
    }

    private static String withoutComments(String source) {
        StringBuilder code = new StringBuilder();
        Matcher comment = Pattern.compile("/\\*.*?\\*/|//[^\\n]*", Pattern.DOTALL).matcher(source);
        while (comment.find()) {
            comment.appendReplacement(code,
                    Matcher.quoteReplacement(comment.group().replaceAll("[^\\n]", "")));
        }
        return comment.appendTail(code).toString();
    }

    private static void methods(String code) {
        Pattern head = Pattern.compile(
                "(?m)^( +)(?:(?:public|private|static|final) )*[\\w\\[\\]]+ ?\\w*\\(([^)]*)\\) \\{$");
        Matcher method = head.matcher(code);
        int found = 0;
        while (method.find()) {
            found++;
            int end = code.indexOf("\n" + method.group(1) + "}", method.end());
            long lines = code.substring(method.start(), end).lines().count() + 1;
            if (lines > MOST_LINES) say(lines + " lines: " + method.group().trim());
            int parameters = method.group(2).isBlank() ? 0 : method.group(2).split(",").length;
            if (parameters > MOST_PARAMETERS) say("parameters: " + method.group().trim());
        }
        if (found < 24) say("only " + found + " methods were found");
    }

    private static void statics(String code) {
        Matcher field = Pattern.compile("(?m)^ *((?:\\w+ )*static [^({]*);").matcher(code);
        while (field.find()) {
            if (!field.group(1).contains(" final ") && !field.group(1).startsWith("final ")) {
                say("not final: " + field.group(1));
            }
        }
    }

    public static void main(String[] args) throws IOException {
        String source = Files.readString(SOURCE);
        if (!source.chars().allMatch(sign -> sign == '\n' || sign >= 32 && sign <= 126)) {
            say("there is a sign outside 32 to 126");
        }
        String code = withoutComments(source);
        for (String without : WITHOUT) {
            Matcher there = Pattern.compile(without).matcher(code);
            while (there.find()) {
                say("line " + code.substring(0, there.start()).lines().count() + ": "
                        + there.group());
            }
        }
        methods(code);
        statics(code);
        System.out.println(wrong == 0 ? "the language is kept to" : wrong + " faults of language");
        if (wrong != 0) System.exit(1);
    }
}

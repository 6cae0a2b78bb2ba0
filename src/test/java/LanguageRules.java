import java.lang.reflect.Method;
import java.lang.reflect.Modifier;
import java.nio.file.Files;
import java.nio.file.Path;
import java.util.Arrays;
import java.util.Set;
import java.util.TreeSet;
import java.util.regex.Matcher;
import java.util.regex.Pattern;
import java.util.stream.Collectors;

/** The rules of LANGUAGE.md that a look at the source and the class can tell. Run from the project's folder. */
public final class LanguageRules {
    private static final Check check = new Check();
    private static final String FACE =
        "after again asking byTurns calm centre confess count deed drawn end fair fault feed fits forget guess image ladder log"
        + " mend next odds plays purse quiet ring round route share small state text till upright walk";

    private static String bare(String source) {
        return source.replaceAll("(?s)/\\*.*?\\*/", " ").replaceAll("//[^\n]*", " ").replaceAll("\"[^\"\n]*\"", "\"\"");
    }

    private static void absent(String code, String what, String pattern) {
        Matcher m = Pattern.compile(pattern).matcher(code);
        check.due(what + (code.isEmpty() ? "" : " in the source"), m.find(), false);
    }

    private static void face() {
        Set<String> open = new TreeSet<>();
        for (Method m : UprightFair.class.getDeclaredMethods()) {
            if (!Modifier.isPrivate(m.getModifiers())) {
                open.add(m.getName());
            }
        }
        check.due("rule 1: the face is " + open, open.equals(new TreeSet<>(Arrays.asList(FACE.split(" ")))), true);
        check.due("rule 1: final", Modifier.isFinal(UprightFair.class.getModifiers()), true);
        check.due("rule 1: one public field", UprightFair.class.getFields().length, 1);
        for (Class<?> inside : UprightFair.class.getDeclaredClasses()) {
            check.due("rule 2: static " + inside, Modifier.isStatic(inside.getModifiers()), true);
            for (Method m : inside.getDeclaredMethods()) {
                check.due("rule 1: name " + m, open.contains(m.getName()), false);
                check.due("rule 11: parameters of " + m, m.getParameterCount() <= 7, true);
            }
            check.due("rule 11: fields of " + inside, Arrays.stream(inside.getDeclaredFields()).filter(f -> !Modifier.isStatic(f.getModifiers())).count() <= 20, true);
        }
        check.due("rule 11: classes", UprightFair.class.getDeclaredClasses().length <= 11, true);
    }

    private static void words(String code) {
        absent(code, "rule 6", "\\b(throw|throws|try|catch|synchronized|assert|hashCode|toString)\\b");
        absent(code, "rule 2: lambda or method reference", "->|::");
        absent(code, "rule 4: Exact", "Exact\\b");
        absent(code, "rule 5: static block", "static\\s*\\{");
        absent(code, "rule 13", "\\b(System\\.(?!arraycopy)|Thread|Random|Math\\.random)");
        absent(code, "rule 3: double", "\\b(double|float)\\b");
        absent(code, "rule 9: endless loop", "while\\s*\\(true\\)|for\\s*\\(;;\\)");
        String imports = Pattern.compile("import [^;]*;").matcher(code).results().map(r -> r.group()).collect(Collectors.joining());
        check.due("rule 4: imports " + imports, imports.equals("import java.util.Arrays;"), true);
        Matcher fields = Pattern.compile("static (?!final)[\\w\\[\\]]+ \\w+\\s*[=;]").matcher(code);
        check.due("rule 5: static fields are final", fields.find(), false);
    }

    /** From a line that opens a method to its closing brace, by the indent. */
    private static void lengths(String source) {
        String[] lines = source.split("\n");
        int from = -1;
        String close = "";
        for (int i = 0; i < lines.length; i++) {
            Matcher m = Pattern.compile("^( {4}| {8})(?!.*\\bclass\\b)\\w.*\\) \\{$").matcher(lines[i]);
            if (from < 0 && m.matches()) {
                from = i;
                close = m.group(1) + "}";
            } else if (from >= 0 && lines[i].equals(close)) {
                check.due("rule 11: lines of " + lines[from].trim(), i - from <= 60, true);
                from = -1;
            }
        }
    }

    public static void main(String[] args) throws Exception {
        String source = Files.readString(Path.of("src/main/java/UprightFair.java"));
        face();
        words(bare(source));
        lengths(source);
        check.due("texts hold plain signs", source.chars().allMatch(c -> c == 10 || c >= 32 && c < 127), true);
        check.end("LanguageRules");
    }
}

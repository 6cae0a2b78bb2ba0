import java.lang.reflect.Field;
import java.lang.reflect.Method;
import java.lang.reflect.Modifier;
import java.nio.file.Files;
import java.nio.file.Path;
import java.util.Arrays;
import java.util.Set;
import java.util.TreeSet;
import java.util.regex.Matcher;
import java.util.regex.Pattern;
import java.util.stream.Collectors;

/** The rules of LANGUAGE.md that a look at the source and the class can tell. Run from the project's folder. */
public final class LanguageRules {
    private static final Check check = new Check();
    private static String bare(String source) {
        return source.replaceAll("(?s)/\\*.*?\\*/", " ").replaceAll("//[^\n]*", " ").replaceAll("\"[^\"\n]*\"", "\"\"");
    }

    private static void absent(String code, String what, String pattern) {
        Matcher m = Pattern.compile(pattern).matcher(code);
        check.due(what + (code.isEmpty() ? "" : " in the source"), m.find(), false);
    }

    /** The document's own lines, with names of parameters struck. */
    private static Set<String> dueFace() throws Exception {
        String doc = Files.readString(Path.of("../shared/DOC.md"));
        Set<String> due = new TreeSet<>();
        Matcher m = Pattern.compile("(?m)^    public (\\w+ \\w+)\\((.*)\\);$").matcher(doc);
        while (m.find()) {
            due.add(m.group(1) + "(" + m.group(2).replaceAll("(\\w+) \\w+", "$1") + ")");
        }
        return due;
    }

    private static String signature(Method m) {
        String types = Arrays.stream(m.getParameterTypes()).map(Class::getName).collect(Collectors.joining(", "));
        return m.getReturnType().getName() + " " + m.getName() + "(" + types + ")";
    }

    private static void face() throws Exception {
        Set<String> open = new TreeSet<>();
        Set<String> names = new TreeSet<>();
        for (Method m : UprightFair.class.getDeclaredMethods()) {
            if (Modifier.isPrivate(m.getModifiers())) {
                continue;
            }
            open.add(signature(m));
            names.add(m.getName());
            check.due("rule 1: public and no more, " + m, m.getModifiers(), Modifier.PUBLIC);
        }
        Set<String> due = dueFace();
        check.due("the document's calls", due.size(), 36);
        check.due("rule 1: the face is " + open, open.equals(due), true);
        check.due("rule 1: constructors", UprightFair.class.getDeclaredConstructors().length, 1);
        check.due("rule 1: public constructors", UprightFair.class.getConstructors().length, 1);
        for (Method m : UprightFair.class.getDeclaredMethods()) {
            check.due("rule 1: a private name " + m, Modifier.isPrivate(m.getModifiers()) && names.contains(m.getName()), false);
        }
        for (Field f : UprightFair.class.getDeclaredFields()) {
            check.due("rule 1: private " + f, Modifier.isPrivate(f.getModifiers()), !f.getName().equals("NONE"));
        }
        check.due("rule 1: NONE", UprightFair.class.getField("NONE").getModifiers(), Modifier.PUBLIC | Modifier.STATIC | Modifier.FINAL);
        check.due("rule 1: final", Modifier.isFinal(UprightFair.class.getModifiers()), true);
        check.due("rule 1: one public field", UprightFair.class.getFields().length, 1);
        for (Class<?> inside : UprightFair.class.getDeclaredClasses()) {
            check.due("rule 2: static " + inside, Modifier.isStatic(inside.getModifiers()), true);
            for (Method m : inside.getDeclaredMethods()) {
                check.due("rule 1: name " + m, names.contains(m.getName()), false);
                check.due("rule 11: parameters of " + m, m.getParameterCount() <= 7, true);
            }
            check.due("rule 11: fields of " + inside, Arrays.stream(inside.getDeclaredFields()).filter(f -> !Modifier.isStatic(f.getModifiers())).count() <= 20, true);
        }
        check.due("rule 11: classes", UprightFair.class.getDeclaredClasses().length <= 11, true);
    }

    private static void words(String code) {
        absent(code, "rule 6", "\\b(throw|throws|try|catch|synchronized|assert|hashCode|toString)\\b");
        absent(code, "rule 2: lambda or method reference", "->|::");
        absent(code, "rule 4: Exact", "Exact\\b");
        absent(code, "rule 5: static block", "static\\s*\\{");
        absent(code, "rule 13", "\\b(System\\.(?!arraycopy)|Thread|Random|Math\\.random)");
        absent(code, "rule 3: double", "\\b(double|float)\\b");
        absent(code, "rule 9: endless loop", "while\\s*\\(true\\)|for\\s*\\(;;\\)");
        String imports = Pattern.compile("import [^;]*;").matcher(code).results().map(r -> r.group()).collect(Collectors.joining());
        check.due("rule 4: imports " + imports, imports.equals("import java.util.Arrays;"), true);
        Matcher fields = Pattern.compile("static (?!final)[\\w\\[\\]]+ \\w+\\s*[=;]").matcher(code);
        check.due("rule 5: static fields are final", fields.find(), false);
    }

    /** From a line that opens a method to its closing brace, by the indent. */
    private static void lengths(String source) {
        String[] lines = source.split("\n");
        int from = -1;
        String close = "";
        for (int i = 0; i < lines.length; i++) {
            Matcher m = Pattern.compile("^( {4}| {8})(?!.*\\bclass\\b)\\w.*\\) \\{$").matcher(lines[i]);
            if (from < 0 && m.matches()) {
                from = i;
                close = m.group(1) + "}";
            } else if (from >= 0 && lines[i].equals(close)) {
                check.due("rule 11: lines of " + lines[from].trim(), i - from <= 60, true);
                from = -1;
            }
        }
    }

    public static void main(String[] args) throws Exception {
        String source = Files.readString(Path.of("src/main/java/UprightFair.java"));
        face();
        words(bare(source));
        lengths(source);
        check.due("texts hold plain signs", source.chars().allMatch(c -> c == 10 || c >= 32 && c < 127), true);
        check.end("LanguageRules");
    }
}

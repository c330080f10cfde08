import java.nio.file.Files;
import java.nio.file.Path;
import java.util.List;
import java.util.regex.Matcher;
import java.util.regex.Pattern;

/** What can be seen in the program's text of the rules of LANGUAGE.md. */
public final class LanguageTest {
    private static final String[] SHUT = {"->", "::", "synchronized", "assert ", "finally", "Exact(", "Float.", "Double.",
        "Math.sqrt", "Math.pow", "catch", "throw", "static {", "Object", "record ", "System.out", "System.exit", "Random",
        "protected", "currentTimeMillis", "nanoTime", "hashCode", "toString", "@"};

    public static void main(String[] args) throws Exception {
        Check check = new Check();
        Path file = Path.of("src/main/java/RhombInflator.java");
        String text = Files.readString(file);
        String code = text.replaceAll("(?s)/\\*.*?\\*/", "").replaceAll("//[^\n]*", "");
        for (String shut : SHUT) {
            check.holds("the program has no " + shut, !code.contains(shut));
        }
        check.holds("characters 1 to 127 alone", text.chars().allMatch(sign -> sign > 0 && sign < 128));
        check.holds("no package", !code.contains("package "));
        Matcher imports = Pattern.compile("import ([^;]*);").matcher(code);
        while (imports.find()) {
            check.holds(imports.group(1) + " is in the library", imports.group(1).equals("java.util.Arrays"));
        }
        checkMethods(check, Files.readAllLines(file));
        check.end("LanguageTest");
    }

    private static void checkMethods(Check check, List<String> lines) {
        Pattern head = Pattern.compile("^( {4}| {8})(?! )(?!.*\\bclass\\b)[^=;]*\\(([^()]*)\\) \\{$");
        for (int n = 0; n < lines.size(); n++) {
            Matcher found = head.matcher(lines.get(n));
            if (found.matches()) {
                int end = n;
                while (end < lines.size() - 1 && !lines.get(end).equals(found.group(1) + "}")) {
                    end++;
                }
                check.holds(lines.get(n) + " is short", end - n <= 60);
                check.holds(lines.get(n) + " has seven parameters at most", found.group(2).split(",").length <= 7);
            }
        }
    }
}

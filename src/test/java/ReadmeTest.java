import java.nio.file.Files;
import java.nio.file.Path;
import java.util.List;
import java.util.regex.Matcher;
import java.util.regex.Pattern;
import java.util.stream.Collectors;
import java.util.stream.Stream;

/** README.md: each call in it gives the number that stands behind it; each test is told of; what OUT is said to be. */
public final class ReadmeTest {
    private static final String NEW = "RhombInflator x = new RhombInflator();";
    private static final Pattern CALL = Pattern.compile("x\\.(\\w+\\(.*\\)); +// (-?\\d+)(:.*|)");

    private final Check check = new Check();
    private RhombInflator object;
    private int calls = 0;

    public static void main(String[] args) throws Exception {
        ReadmeTest test = new ReadmeTest();
        String text = Files.readString(Path.of("README.md"));
        test.makeCalls(text);
        test.findTests(text);
        test.check.end("ReadmeTest");
    }

    private void makeCalls(String text) {
        boolean inside = false;
        for (String line : text.split("\n")) {
            if (line.startsWith("```")) {
                inside = line.equals("```java");
                object = null;
            } else if (inside && line.equals(NEW)) {
                object = new RhombInflator();
            } else if (inside) {
                makeCall(line);
            }
        }
        check.holds("README.md shows how an object is made and called", calls > 20);
    }

    private void makeCall(String line) {
        Matcher call = CALL.matcher(line);
        boolean told = call.matches();
        check.holds("an object, a call and its answer: " + line, told && object != null);
        if (told && object != null) {
            calls++;
            check.due("README.md: " + line, Call.of(call.group(1)).on(object), Long.parseLong(call.group(2)));
            checkOut(call.group(3));
        }
    }

    /** A text in quotes that ends by two dots is how OUT begins. */
    private void checkOut(String behind) {
        int from = behind.indexOf("OUT is now \"");
        if (from >= 0) {
            String due = behind.substring(from + 12, behind.lastIndexOf(".."));
            StringBuilder out = new StringBuilder();
            for (int i = 0; i < due.length(); i++) {
                out.append((char) object.out(i));
            }
            check.holds("README.md: OUT begins as " + due + ", not " + out, out.toString().equals(due));
        }
    }

    private void findTests(String text) throws Exception {
        List<String> names;
        try (Stream<Path> files = Files.list(Path.of("src/test/java"))) {
            names = files.map(file -> file.getFileName().toString()).filter(name -> name.endsWith("Test.java"))
                .map(name -> name.replace(".java", "")).sorted().collect(Collectors.toList());
        }
        for (String name : names) {
            check.holds("README.md tells of " + name, text.contains("`" + name + "`"));
        }
        check.holds("README.md tells how the tests are run", text.contains(".ci/run"));
    }
}

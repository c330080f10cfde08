import java.lang.reflect.Method;
import java.util.HashMap;
import java.util.Map;

/**
 * Runs of calls written as texts, each run on a new object. A line is a call and what is due:
 * "many(2) = 10" an answer with STATUS 0; "many(15) ! 1" NONE with that STATUS; "fault(0) ~ 2" an
 * answer alone, with STATUS as it was. "load 'a text' = 1" feeds a text and loads all of it;
 * "printed 'a text'" prints and compares OUT byte by byte.
 */
final class Script {
    private static final Map<String, Method> CALLS = new HashMap<>();

    private final Check check;
    private final String name;
    private final RhombInflator object = new RhombInflator();
    private int used = 0;

    private Script(Check check, String name) {
        this.check = check;
        this.name = name;
    }

    static void run(Check check, String name, String... lines) {
        for (Method method : RhombInflator.class.getMethods()) {
            CALLS.put(method.getName(), method);
        }
        Script script = new Script(check, name);
        for (String line : lines) {
            script.line(line);
        }
        check.holds(name + " keeps to 512 calls", script.used <= 512);
    }

    private void line(String line) {
        if (line.startsWith("printed '")) {
            printed(line.substring(9, line.length() - 1));
            return;
        }
        int cut = line.lastIndexOf(' ', line.length() - 1);
        char sort = line.charAt(cut - 1);
        long want = Long.parseLong(line.substring(cut + 1));
        String call = line.substring(0, cut - 2);
        int before = object.status();
        long got = call.startsWith("load '") ? loaded(call.substring(6, call.length() - 1)) : ask(call);
        String told = name + ": " + line + ": ";
        if (sort == '=') {
            check.due(object, told, got, want, 0);
        } else if (sort == '!') {
            check.due(object, told, got, RhombInflator.NONE, (int) want);
        } else {
            check.due(told, got, want);
            check.due(told + "status", object.status(), before);
        }
        used++;
    }

    private long ask(String call) {
        used++;
        int open = call.indexOf('(');
        String inside = call.substring(open + 1, call.length() - 1).trim();
        String[] words = inside.isEmpty() ? new String[0] : inside.split(", *");
        Object[] given = new Object[words.length];
        for (int k = 0; k < words.length; k++) {
            boolean truth = words[k].equals("true") || words[k].equals("false");
            given[k] = truth ? (Object) Boolean.valueOf(words[k]) : (Object) Integer.valueOf(words[k]);
        }
        try {
            return ((Number) CALLS.get(call.substring(0, open)).invoke(object, given)).longValue();
        } catch (ReflectiveOperationException thrown) {
            check.holds(name + ": " + call + " throws nothing, but " + thrown.getCause(), false);
            return Long.MIN_VALUE;
        }
    }

    private long loaded(String text) {
        feed(text);
        return ask("load(" + text.length() + ")");
    }

    private void feed(String text) {
        for (int at = 0; at < text.length(); at += 20) {
            int[] fours = new int[5];
            for (int n = 0; n < 20; n++) {
                char sign = at + n < text.length() ? text.charAt(at + n) : '?';
                fours[n / 4] = fours[n / 4] << 8 | sign;
            }
            long fed = ask("feed(" + fours[0] + ", " + fours[1] + ", " + fours[2] + ", " + fours[3] + ", " + fours[4] + ")");
            check.due(name + ": feed", fed, at + 20);
        }
    }

    private void printed(String text) {
        check.gives(object, name + ": print()", ask("print()"), text.length());
        StringBuilder out = new StringBuilder();
        for (int i = 0; i < text.length(); i++) {
            out.append((char) ask("out(" + i + ")"));
        }
        check.holds(name + ": OUT is " + text + ", not " + out, out.toString().equals(text));
        check.refuses(object, name + ": out() behind OUT", ask("out(" + text.length() + ")"), 5);
    }
}

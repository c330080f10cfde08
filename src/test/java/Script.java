import java.util.ArrayList;
import java.util.HashMap;
import java.util.List;
import java.util.Map;
import java.util.Set;

/**
 * Runs of calls written as texts, each run on a new object. A line is a call and what is due:
 * "many(2) = 10" an answer with STATUS 0; "many(2) ? 0" any answer with STATUS 0; "many(15) ! 1" NONE with that STATUS;
 * "fault(0) ~ 2" an answer alone, with STATUS as it was. "load 'a text' = 1" feeds a text and loads all of it;
 * "printed 'a text'" prints and compares OUT byte by byte.
 *
 * Behind every line with a "!", and behind a feed() with NONE, all that can be seen of the object must be as it is on
 * one on which only the calls were made that may change something; so it is at the end of each run, too.
 */
final class Script {
    private static final Set<String> MOVES = Set.of("start", "level", "row", "pick", "putBy", "lay", "borrow", "take", "clear",
        "force", "feed", "load", "print");

    private final Check check;
    private final String name;
    private final RhombInflator object = new RhombInflator();
    private final List<Call> made = new ArrayList<>();
    // Those of the calls behind which something may be another one than ahead of them.
    private final List<Call> moving = new ArrayList<>();
    private final Map<String, List<String>> views = new HashMap<>();
    private int used = 0;

    private Script(Check check, String name) {
        this.check = check;
        this.name = name;
    }

    static void run(Check check, String name, String... lines) {
        Script script = new Script(check, name);
        for (String line : lines) {
            script.line(line);
        }
        script.nothingElseChanged("the run", Watch.PARTS);
        check.holds(name + " keeps to 512 calls", script.used <= 512);
    }

    private void line(String line) {
        if (line.startsWith("printed '")) {
            printed(line.substring(9, line.length() - 1));
            return;
        }
        int cut = line.lastIndexOf(' ');
        char sort = line.charAt(cut - 1);
        long want = Long.parseLong(line.substring(cut + 1));
        String text = line.substring(0, cut - 2);
        if (text.startsWith("load '")) {
            text = fedText(text.substring(6, text.length() - 1));
        }
        Call call = Call.of(text);
        int before = object.status();
        long got = ask(call);
        String told = name + ": " + line + ": ";
        if (sort == '=') {
            check.due(object, told, got, want, 0);
        } else if (sort == '?') {
            check.due(told + "status", object.status(), want);
        } else if (sort == '!') {
            check.due(object, told, got, RhombInflator.NONE, (int) want);
        } else {
            check.due(told, got, want);
            check.due(told + "status", object.status(), before);
        }
        boolean refused = sort == '!' || call.name.equals("feed") && got == RhombInflator.NONE;
        noteCall(call, told, refused, object.status());
    }

    private long ask(Call call) {
        used++;
        made.add(call);
        return call.on(object);
    }

    private void noteCall(Call call, String told, boolean refused, int status) {
        boolean faulty = refused && call.name.equals("load") && status == 9;
        boolean stuck = refused && call.name.equals("force") && (status == 3 || status == 8);
        if (faulty) {
            nothingElseChanged(told, List.of("PATCH", "ROWS", "TABLE", "POINTS", "OUT"));
        } else if (stuck) {
            nothingElseChanged(told, List.of("PATCH", "ROWS", "TAPE", "OUT"));
            rhombsStay(told);
        } else if (refused) {
            nothingElseChanged(told, Watch.PARTS);
        }
        if (MOVES.contains(call.name) && (!refused || faulty || stuck)) {
            moving.add(call);
            views.clear();
        }
    }

    private void nothingElseChanged(String told, List<String> parts) {
        for (String part : parts) {
            List<String> due = views.computeIfAbsent(part, asked -> Watch.see(asked, moving));
            String other = Watch.difference(Watch.see(part, made), due);
            check.holds(told + " changes nothing else, but of the " + part + ": " + other, other == null);
        }
    }

    /** What force() laid ahead of its STATUS stands behind the RHOMBS that were there, and these are as they were. */
    private void rhombsStay(String told) {
        List<String> after = Watch.see("TABLE", made);
        for (String thing : Watch.see("TABLE", moving)) {
            boolean ofOne = thing.startsWith("rhomb") || thing.startsWith("spot");
            check.holds(told + " leaves what was there: " + thing, !ofOne || thing.endsWith("STATUS 2") || after.contains(thing));
        }
    }

    /** Feeds a text; the call that loads all of it. */
    private String fedText(String text) {
        for (int at = 0; at < text.length(); at += 20) {
            Call feed = Call.feeding(text, at);
            check.due(name + ": feed", ask(feed), at + 20);
            noteCall(feed, name, false, 0);
        }
        return "load(" + text.length() + ")";
    }

    private void printed(String text) {
        Call print = Call.of("print()");
        check.gives(object, name + ": print()", ask(print), text.length());
        noteCall(print, name, false, 0);
        StringBuilder out = new StringBuilder();
        for (int i = 0; i < text.length(); i++) {
            out.append((char) ask(Call.of("out(" + i + ")")));
        }
        check.holds(name + ": OUT is " + text + ", not " + out, out.toString().equals(text));
        check.refuses(object, name + ": out() behind OUT", ask(Call.of("out(" + text.length() + ")")), 5);
    }
}

import java.util.ArrayList;
import java.util.List;

/**
 * All that can be seen of an object, part by part: two runs of calls that must leave the same behind them are made
 * again on new objects and looked at, each part on an object of its own, as 512 calls are all that it is made for.
 */
final class Watch {
    static final List<String> PARTS = List.of("PATCH", "ROWS", "TABLE", "POINTS", "TAPE", "OUT");

    private final RhombInflator object = new RhombInflator();
    private final List<String> seen = new ArrayList<>();
    private int used = 0;

    /** What is seen of a part behind some calls. */
    static List<String> see(String part, List<Call> calls) {
        Watch watch = new Watch();
        for (Call call : calls) {
            call.on(watch.object);
            watch.used++;
        }
        switch (part) {
            case "PATCH": watch.seePatch(); break;
            case "ROWS": watch.seeRows(); break;
            case "TABLE": watch.seeTable(); break;
            case "POINTS": watch.seePoints(); break;
            case "TAPE": watch.seeTape(); break;
            default: watch.seeOut(); break;
        }
        if (watch.used > 512) {
            throw new IllegalStateException(part + " behind " + calls.size() + " calls takes more than 512");
        }
        return watch.seen;
    }

    /** The first thing that is told another way in the two; null if there is none. */
    static String difference(List<String> one, List<String> two) {
        for (int n = 0; n < Math.max(one.size(), two.size()); n++) {
            String first = n < one.size() ? one.get(n) : "nothing more";
            String second = n < two.size() ? two.get(n) : "nothing more";
            if (!first.equals(second)) {
                return first + ", not " + second;
            }
        }
        return null;
    }

    private long ask(String text) {
        long answer = Call.of(text).on(object);
        used++;
        String why = "";
        if (answer == RhombInflator.NONE && !text.startsWith("fault") && !text.startsWith("feed")) {
            why = " with STATUS " + object.status();
            used++;
        }
        seen.add(text + " is " + answer + why);
        return answer;
    }

    private void seePatch() {
        for (int what = 0; what <= 12; what++) {
            ask("many(" + what + ")");
        }
        int last = (int) ask("many(2)") - 1;
        for (int i : new int[] {0, last / 2, last}) {
            for (int what = 0; what <= 6; what++) {
                ask("half(" + i + ", " + what + ")");
            }
            for (int n = 0; n < 12; n++) {
                ask("corner(" + i + ", " + n / 4 + ", " + n % 4 + ")");
            }
        }
        ask("half(" + (last + 1) + ", 0)");
        for (int d = 0; d < 5; d++) {
            ask("legs(" + d + ")");
        }
        for (int k = 0; k < 10; k++) {
            ask("atlas(" + k + ")");
        }
        ask("steps(0, " + last + ")");
        ask("area(1)");
        ask("border(0)");
    }

    /** What the ROW's KIND is can only be seen by picking; so that stands at the end. */
    private void seeRows() {
        for (int what = 0; what < 2; what++) {
            for (int n = 0; n < 52; n++) {
                if (ask("picked(" + what + ", " + n / 4 + ", " + n % 4 + ")") == RhombInflator.NONE && object.status() == 5) {
                    break;
                }
            }
        }
        ask("start(1)");
        ask("pick(0)");
        ask("start(2)");
        ask("pick(0)");
        ask("putBy()");
        ask("row(0)");
    }

    private void seeTable() {
        ask("many(14)");
        seeRhombs();
        for (int what = 0; what <= 4; what++) {
            ask("holes(" + what + ")");
        }
        ask("open()");
        ask("covered(0)");
        ask("covered(1)");
    }

    private void seeRhombs() {
        int count = (int) ask("many(13)");
        for (int k = 0; k < count; k++) {
            for (int what = 0; what <= 2; what++) {
                ask("rhomb(" + k + ", " + what + ")");
            }
            for (int which = 0; which <= 3; which++) {
                ask("spot(" + k + ", 0, " + which + ")");
            }
        }
        ask("rhomb(" + count + ", 0)");
    }

    private void seePoints() {
        int count = (int) ask("many(14)");
        for (int point = 0; point <= count; point++) {
            ask("taken(" + point + ")");
            ask("ways(" + point + ")");
        }
        ask("meeting(0)");
        ask("pointOf(0, 3)");
    }

    /** What is on the tape can only be seen by reading it; so that stands at the end. */
    private void seeTape() {
        ask("fault(0)");
        ask("fault(1)");
        long length = ask("feed(0, 0, 0, 0, 0)");
        ask("load(" + (length == RhombInflator.NONE ? 900 : length - 20) + ")");
        ask("fault(0)");
        ask("fault(1)");
        seeRhombs();
    }

    private void seeOut() {
        for (int i = 0; i < 250; i++) {
            if (ask("out(" + i + ")") == RhombInflator.NONE) {
                break;
            }
        }
        ask("out(1055)");
    }
}

import java.util.ArrayList;
import java.util.Arrays;
import java.util.List;

/**
 * Every number of every call: the least and the greatest that are good, the first ones that are not on both sides, and
 * the least and the greatest ints that there are; then two wrong numbers at once, of which the lesser STATUS counts.
 * That a refused call changes nothing is looked at behind each (see Script), in states in which there is much to change.
 */
public final class NumberBoundsTest {
    private static final Check CHECK = new Check();
    private static final int LOWEST = Integer.MIN_VALUE;
    private static final int HIGHEST = Integer.MAX_VALUE;

    /** Something of all that an object can hold: 16 HALVES, a ROW of 3, 2 put by, 3 RHOMBS, OUT of two, a FAULT, a tape. */
    private static final String[] RICH = {"start(3) = 2", "level(2) = 16", "row(1) = 0", "pick(0) = 1", "pick(1) = 2", "putBy() = 2",
        "pick(3) = 3", "lay(1, 0, 0, 0, 0, 0, 0) = 0", "lay(1, 0, 0, 0, 0, 0, 1) = 1", "print() = 56", "lay(0, 9, -9, 0, 0, 5, 1) = 2",
        "load 'thin 0 0 0 0 turn 0 hand 2;' ! 9", "feed(1952999790, 540024880, 540024880, 544503154, 1847603232) ~ 20",
        "feed(1751215716, 540031776, 538976288, 538976288, 538976288) ~ 40"};
    /** The same behind LEVEL 5, where all is fullest: 890 HALVES, 12 in the ROW and put by. */
    private static final String[] DEEP = {"level(5) = 890", "row(0) = 0", "pick(0) = 1", "pick(0) = 2", "pick(0) = 3", "pick(0) = 4",
        "pick(0) = 5", "pick(0) = 6", "pick(0) = 7", "pick(0) = 8", "pick(0) = 9", "pick(0) = 10", "pick(0) = 11", "pick(0) = 12",
        "putBy() = 12"};
    private static final String[] NEW = {};

    public static void main(String[] args) {
        patchNumbers();
        rowNumbers();
        figureNumbers();
        tableNumbers();
        tapeNumbers();
        patchPairs();
        tablePairs();
        noSuchThing();
        CHECK.end("NumberBoundsTest");
    }

    private static void run(String name, String[] state, String... lines) {
        List<String> all = new ArrayList<>(Arrays.asList(state));
        all.addAll(Arrays.asList(lines));
        Script.run(CHECK, name, all.toArray(new String[0]));
    }

    /** A number # of a call is good from the one to the other; beyond them NONE comes with a STATUS. */
    private static void within(String[] state, String call, int least, int most, int status) {
        within(state, call, least, most, status, status);
    }

    private static void within(String[] state, String call, int least, int most, int below, int above) {
        run(call, state, with(call, LOWEST) + " ! " + below, with(call, least - 1) + " ! " + below, with(call, most + 1) + " ! " + above,
            with(call, HIGHEST) + " ! " + above);
        for (int good : new int[] {least, most}) {
            run(call + ", good", state, with(call, good) + " ? 0");
        }
    }

    private static String with(String call, int number) {
        return call.replace("#", Integer.toString(number));
    }

    /** Any of these numbers, any way: the call gives NONE with a STATUS. */
    private static void refused(String[] state, int status, String... calls) {
        List<String> lines = new ArrayList<>();
        for (String call : calls) {
            lines.add(call + " ! " + status);
        }
        run("STATUS " + status, state, lines.toArray(new String[0]));
    }

    private static void patchNumbers() {
        for (String[] state : new String[][] {NEW, RICH, DEEP}) {
            int halves = state == NEW ? 10 : state == RICH ? 16 : 890;
            int level = state == NEW ? 0 : state == RICH ? 2 : 5;
            within(state, "start(#)", 0, 3, 1);
            within(state, "level(#)", 0, 5, 1);
            within(state, "many(#)", 0, 14, 1);
            within(state, "half(#, 0)", 0, halves - 1, 2);
            within(state, "half(#, 6)", 0, halves - 1, 2);
            within(state, "half(1, #)", 0, 6, 1);
            within(state, "corner(#, 0, 0)", 0, halves - 1, 2);
            within(state, "corner(1, #, 3)", 0, 2, 1);
            within(state, "corner(1, 2, #)", 0, 3, 1);
            within(state, "ahead(#, 0)", 0, halves - 1, 2);
            within(state, "ahead(1, #)", 0, level, 1);
            within(state, "grown(#, 0, 0)", 0, halves - 1, 2);
            within(state, "grown(1, #, 40)", 0, 1, 1);
            within(state, "grown(1, 1, #)", 0, 40, 1);
            within(state, "area(#)", 0, 1, 1);
            within(state, "nearer(#, 0, 0, 0)", 0, halves - 1, 2);
            within(state, "nearer(0, #, 0, 0)", 0, halves - 1, 2);
            within(state, "nearer(0, 0, #, 0)", 0, halves - 1, 2);
            within(state, "nearer(0, 0, 0, #)", 0, halves - 1, 2);
            within(state, "square(#, 0, 0)", 0, halves - 1, 2);
            within(state, "square(0, #, 1)", 0, halves - 1, 2);
            within(state, "square(1, 0, #)", 0, 1, 1);
            within(state, "drawn(#, 0, 0)", 0, halves - 1, 2);
            within(state, "drawn(1, #, 1)", 0, 2, 1);
            within(state, "drawn(1, 2, #)", 0, 1, 1);
            within(state, "steps(#, 1)", 0, halves - 1, 2);
            within(state, "steps(1, #)", 0, halves - 1, 2);
            within(state, "around(#, 2)", 0, halves - 1, 2);
            within(state, "around(1, #)", 0, 40, 1);
            within(state, "like(#, false)", 0, 9, 1);
            within(state, "like(#, true)", 0, 9, 1);
            within(state, "legs(#)", 0, 4, 1);
            within(state, "border(#)", 0, 1, 1);
            within(state, "tenths(#, 0)", 0, halves - 1, 2);
            within(state, "tenths(1, #)", 0, 2, 1);
        }
        // HALVES of one START HALF, so that there is a LEVEL up to which they are in one.
        String[] one = {"start(2) = 1", "level(5) = 144"};
        within(one, "common(#, 7)", 0, 143, 2);
        within(one, "common(7, #)", 0, 143, 2);
        within(new String[] {"level(1) = 20"}, "ribbon(#, 0, 0)", 0, 19, 2);
        within(new String[] {"level(1) = 20"}, "ribbon(0, #, 0)", 0, 1, 1);
        within(new String[] {"level(1) = 20"}, "ribbon(0, 0, #)", 0, 1, 1);
        within(new String[] {"level(1) = 20"}, "borrow(#)", 0, 19, 2);
        locateNumbers();
    }

    /** Points in a thick HALF, each with a number that is the last good one, and some with one that is not. */
    private static void locateNumbers() {
        run("promise 9, numbers not -9,999 to 9,999", new String[] {"start(2) = 1"}, "locate(-9999, 6179, 6181, -9999) = 0",
            "locate(9999, -9999, 1, 6179) = 0", "locate(3820, -9999, 9998, -3818) = 0", "locate(-9997, 9999, -3, -6176) = 0",
            "locate(-3818, 9998, -9999, 3820) = 0", "locate(-6176, -3, 9999, -9997) = 0", "locate(6179, 1, -9999, 9999) = 0",
            "locate(-10000, 6182, 6178, -9998) ! 1", "locate(10000, -9999, -1, 6181) ! 1", "locate(3821, -10000, 9998, -3817) ! 1",
            "locate(-9999, 10000, -1, -6179) ! 1", "locate(-3817, 9998, -10000, 3821) ! 1", "locate(-6179, -1, 10000, -9999) ! 1",
            "locate(-9998, 6177, 6183, -10000) ! 1", "locate(6181, -1, -9999, 10000) ! 1");
        for (String call : new String[] {"locate(#, 0, 0, 0)", "locate(0, #, 0, 0)", "locate(0, 0, #, 0)", "locate(0, 0, 0, #)"}) {
            run(call, RICH, with(call, LOWEST) + " ! 1", with(call, -10000) + " ! 1", with(call, -9999) + " ! 5", with(call, 9999) + " ! 5",
                with(call, 10000) + " ! 1", with(call, HIGHEST) + " ! 1", with(call, 65536) + " ! 1", with(call, -65536) + " ! 1",
                with(call, 0) + " ? 0");
        }
    }

    private static void rowNumbers() {
        for (String[] state : new String[][] {NEW, RICH, DEEP}) {
            within(state, "row(#)", 0, 1, 1);
        }
        within(new String[] {"row(0) = 0"}, "pick(#)", 0, 9, 2);
        within(new String[] {"start(2) = 1", "row(1) = 0"}, "pick(#)", 0, 0, 2);
        within(RICH, "picked(#, 1, 0)", 0, 1, 1);
        within(RICH, "picked(0, 2, #)", 0, 3, 1);
        within(RICH, "picked(1, 1, #)", 0, 3, 1);
        within(RICH, "picked(0, #, 0)", 0, 2, 1, 5);
        within(RICH, "picked(1, #, 0)", 0, 1, 1, 5);
        within(DEEP, "picked(0, #, 3)", 0, 11, 1, 5);
        within(DEEP, "picked(1, #, 3)", 0, 11, 1, 5);
    }

    private static void figureNumbers() {
        within(new String[] {"level(1) = 20"}, "atlas(#)", 0, 1, 1, 5);
        within(DEEP, "atlas(#)", 0, 7, 1, 5);
        refused(NEW, 5, "atlas(0)", "atlas(1)", "atlas(2147483647)");
        refused(NEW, 1, "atlas(-1)", "atlas(-2147483648)");
        run("having", DEEP, "having(-1) ! 1", "having(-2147483648) ! 1", "having(0) = 0", "having(129) = 0", "having(131) = 0",
            "having(2147483647) = 0");
        within(NEW, "comes(#, 130)", 0, 3, 1);
        within(DEEP, "comes(#, 130)", 0, 3, 1);
        run("comes", RICH, "comes(0, -1) ! 1", "comes(0, -2147483648) ! 1", "comes(0, 0) ! 5", "comes(0, 2147483647) ! 5",
            "comes(0, 129) ! 5", "comes(0, 131) ! 5", "comes(0, 130) = 1");
        // Of HALF 18 CORNER B is INNER, of HALF 19 A and C are.
        run("figure", new String[] {"level(1) = 20"}, "figure(-2147483648, 1) ! 2", "figure(-1, 1) ! 2", "figure(0, 1) = 130", "figure(18, 1) = 130",
            "figure(19, 0) = 130", "figure(19, 2) = 16806", "figure(19, 1) ! 5", "figure(20, 1) ! 2", "figure(2147483647, 1) ! 2",
            "figure(19, -2147483648) ! 1", "figure(19, -1) ! 1", "figure(19, 3) ! 1", "figure(19, 2147483647) ! 1");
        for (String[] state : new String[][] {NEW, RICH, DEEP}) {
            int last = state == NEW ? 9 : state == RICH ? 15 : 889;
            run("leads", state, "leads(-1) ! 1", "leads(-2147483648) ! 1", "leads(0) = 0", "leads(2147483647) ! 5",
                "leads(" + (state == NEW ? 9 : state == RICH ? 16 : 2338) + ") = " + last,
                "leads(" + (state == NEW ? 10 : state == RICH ? 17 : 2339) + ") ! 5");
        }
    }

    private static void tableNumbers() {
        for (String[] state : new String[][] {NEW, RICH}) {
            within(state, "lay(#, 50, 0, 0, 0, 9, 1)", 0, 1, 1);
            within(state, "lay(0, #, 0, 40, 0, 9, 1)", -999, 999, 1);
            within(state, "lay(0, 0, #, 40, 0, 9, 1)", -999, 999, 1);
            within(state, "lay(0, 40, 0, #, 0, 9, 1)", -999, 999, 1);
            within(state, "lay(0, 40, 0, 0, #, 9, 1)", -999, 999, 1);
            within(state, "lay(1, 50, 0, 0, 0, #, 0)", 0, 9, 1);
            within(state, "lay(1, 50, 0, 0, 0, 9, #)", 0, 1, 1);
            within(state, "force(#)", 1, 24, 1);
            within(state, "covered(#)", 0, 1, 1);
        }
        within(RICH, "take(#)", 0, 2, 2);
        within(RICH, "rhomb(#, 0)", 0, 2, 2);
        within(RICH, "rhomb(1, #)", 0, 2, 1);
        within(RICH, "spot(#, 0, 0)", 0, 2, 2);
        within(RICH, "spot(1, #, 0)", 0, 3, 1);
        within(RICH, "spot(1, 0, #)", 0, 3, 1);
        within(RICH, "pointOf(#, 0)", 0, 2, 2);
        within(RICH, "pointOf(1, #)", 0, 3, 1);
        within(RICH, "taken(#)", 0, 9, 2);
        within(RICH, "gaps(#, 0)", 0, 9, 2);
        within(RICH, "gaps(1, #)", 0, 1, 1);
        within(RICH, "ways(#)", 0, 9, 2);
        within(RICH, "meeting(#)", 0, 2, 2);
        // What 3 and 4 can be asked, too, but there may be none.
        run("holes", NEW, "holes(-2147483648) ! 1", "holes(-1) ! 1", "holes(0) = 0", "holes(2) = 0", "holes(3) ! 5", "holes(4) ! 5", "holes(5) ! 1",
            "holes(2147483647) ! 1");
        run("holes", RICH, "holes(-2147483648) ! 1", "holes(-1) ! 1", "holes(0) = 0", "holes(1) = 1", "holes(2) = 0", "holes(3) = 7", "holes(4) ! 5",
            "holes(5) ! 1", "holes(2147483647) ! 1");
    }

    private static void tapeNumbers() {
        within(NEW, "load(#)", 0, 0, 1);
        within(RICH, "out(#)", 0, 55, 1, 5);
        refused(NEW, 5, "out(0)", "out(2147483647)");
        refused(NEW, 1, "out(-1)", "out(-2147483648)");
        // 40 bytes are on the tape, and all that lies behind the first 27 are blanks.
        run("promise 47, n above what the tape has", RICH, "load(-2147483648) ! 1", "load(-1) ! 1", "load(41) ! 1", "load(2147483647) ! 1",
            "load(40) = 1", "load(40) ! 1", "load(1) ! 1", "load(0) = 0");
        run("promise 48, NONE for others", RICH, "fault(-2147483648) ~ -1", "fault(-1) ~ -1", "fault(0) ~ 3", "fault(1) ~ 25",
            "fault(2) ~ -1", "fault(2147483647) ~ -1", "many(15) ! 1", "fault(2) ~ -1", "fault(-1) ~ -1", "fault(1) ~ 25");
    }

    /** A number that can't be, of a HALF that is not there: 1 holds first. */
    private static void patchPairs() {
        for (String i : new String[] {"-1", "16", "-2147483648", "2147483647"}) {
            for (String wrong : new String[] {"-1", "41", "-2147483648", "2147483647"}) {
                refused(RICH, 1, "half(" + i + ", " + wrong + ")", "corner(" + i + ", " + wrong + ", 0)", "corner(" + i + ", 0, " + wrong + ")",
                    "ahead(" + i + ", " + wrong + ")", "grown(" + i + ", " + wrong + ", 0)", "grown(" + i + ", 0, " + wrong + ")",
                    "square(" + i + ", 0, " + wrong + ")", "square(0, " + i + ", " + wrong + ")", "drawn(" + i + ", " + wrong + ", 0)",
                    "drawn(" + i + ", 0, " + wrong + ")", "around(" + i + ", " + wrong + ")", "ribbon(" + i + ", " + wrong + ", 0)",
                    "ribbon(" + i + ", 0, " + wrong + ")", "tenths(" + i + ", " + wrong + ")", "figure(" + i + ", " + wrong + ")");
            }
            refused(RICH, 2, "nearer(" + i + ", " + i + ", " + i + ", " + i + ")", "square(" + i + ", " + i + ", 0)", "common(" + i + ", " + i + ")",
                "steps(" + i + ", " + i + ")", "pick(" + i + ")", "borrow(" + i + ")");
        }
        refused(RICH, 1, "ahead(16, 3)", "locate(10000, 0, 0, -10000)", "picked(2, 12, 4)", "picked(2, -1, 0)", "picked(2, 3, 0)",
            "picked(0, 3, 4)", "picked(0, -1, 4)", "comes(4, -1)", "comes(4, 131)", "comes(-1, 131)");
    }

    private static void tablePairs() {
        for (String k : new String[] {"-1", "3", "10", "-2147483648", "2147483647"}) {
            for (String wrong : new String[] {"-1", "4", "-2147483648", "2147483647"}) {
                refused(RICH, 1, "rhomb(" + k + ", " + wrong + ")", "spot(" + k + ", " + wrong + ", 0)", "spot(" + k + ", 0, " + wrong + ")",
                    "pointOf(" + k + ", " + wrong + ")", "gaps(" + k + ", " + wrong + ")");
            }
        }
        // A RHOMB with a number that can't be, where it would lie on another one, or beside it with another MARK.
        refused(RICH, 1, "lay(2, 0, 0, 0, 0, 0, 0)", "lay(1, 0, 0, 0, 0, 0, 2)", "lay(1, 0, 0, 0, 0, 10, 0)", "lay(1, 0, 0, 0, 0, -10, 0)",
            "lay(-1, 1000, 0, 0, -1000, 10, 2)", "lay(1, 65536, 0, 0, 0, 0, 0)", "lay(1, 0, -65536, 0, 0, 0, 0)");
        refused(RICH, 6, "lay(1, 0, 0, 0, 0, 0, 0)");
    }

    /** Where there is none of them at all, none is there by any number. */
    private static void noSuchThing() {
        for (int k : new int[] {0, 1, -1, 23, 24, HIGHEST, LOWEST}) {
            refused(NEW, 2, with("take(#)", k), with("rhomb(#, 0)", k), with("spot(#, 0, 0)", k), with("pointOf(#, 0)", k), with("taken(#)", k),
                with("gaps(#, 0)", k), with("ways(#)", k), with("meeting(#)", k));
            refused(NEW, 1, with("rhomb(#, 3)", k), with("spot(#, 4, 0)", k), with("pointOf(#, 4)", k), with("gaps(#, 2)", k));
        }
    }
}

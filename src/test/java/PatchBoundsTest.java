import java.util.ArrayList;
import java.util.List;

/**
 * Promises 1 to 31 and 'Terms', part 1 and 2, sentence by sentence where they name a bound: what is empty or alone, the
 * first and the last of something, what wraps round, what is none with STATUS 0. Each run is named by its sentence.
 * Which numbers each call takes is told in NumberBoundsTest.
 */
public final class PatchBoundsTest {
    private static final Check CHECK = new Check();
    /** STEP 0 to 9, as the rule of z gives them. */
    static final int[][] STEPS = {{1, 0, 0, 0}, {0, 1, 0, 0}, {0, 0, 1, 0}, {0, 0, 0, 1}, {-1, 1, -1, 1}, {-1, 0, 0, 0}, {0, -1, 0, 0},
        {0, 0, -1, 0}, {0, 0, 0, -1}, {1, -1, 1, -1}};

    public static void main(String[] args) {
        newObject();
        status();
        startsAndSteps();
        startAndLevel();
        many();
        nones();
        addresses();
        locate();
        growth();
        distances();
        rows();
        putBy();
        common();
        walks();
        ribbons();
        likeness();
        sides();
        figures();
        comes();
        CHECK.end("PatchBoundsTest");
    }

    private static void run(String name, String... lines) {
        Script.run(CHECK, name, lines);
    }

    private static void run(String name, List<String> lines) {
        Script.run(CHECK, name, lines.toArray(new String[0]));
    }

    /** Each on an object of its own, as the first call. */
    private static void newObject() {
        String[] firsts = {"status() ~ 0", "many(0) = 0", "many(1) = 0", "many(2) = 10", "many(3) = 10", "many(13) = 0", "many(14) = 0",
            "clear() = 0", "take(0) ! 2", "taken(0) ! 2", "open() = 0", "covered(0) = 0", "covered(1) = 0", "holes(0) = 0", "force(24) = 0",
            "print() = 0", "out(0) ! 5", "fault(0) ~ -1", "fault(1) ~ -1", "feed(0, 0, 0, 0, 0) ~ 20", "load(0) = 0", "load(1) ! 1",
            "row(0) = 0", "row(1) = 0", "pick(0) ! 5", "putBy() ! 5", "picked(0, 0, 0) ! 5", "picked(1, 0, 0) ! 5", "half(9, 1) = 9",
            "half(10, 1) ! 2", "ahead(9, 0) = 9", "ahead(9, 1) ! 1", "atlas(0) ! 5"};
        for (String first : firsts) {
            run("promise 1: START 0, LEVEL 0; the TABLE is empty; STATUS 0: " + first, first);
        }
    }

    private static void status() {
        run("promise 2: of the latest call that has one", "status() ~ 0", "status() ~ 0", "half(10, 0) ! 2", "status() ~ 2", "status() ~ 2",
            "fault(0) ~ -1", "status() ~ 2", "fault(1) ~ -1", "fault(5) ~ -1", "status() ~ 2", "feed(0, 0, 0, 0, 0) ~ 20", "status() ~ 2",
            "many(0) = 0", "status() ~ 0", "level(6) ! 1", "status() ~ 1", "pick(0) ! 5", "status() ~ 5", "row(1) = 0", "pick(0) ! 6",
            "status() ~ 6", "load(20) ! 9", "status() ~ 9", "fault(0) ~ 1", "fault(1) ~ 0", "status() ~ 9");
        List<String> lines = new ArrayList<>(List.of("leads(10) ! 5"));
        for (int n = 1; n <= 45; n++) {
            lines.add("feed(0, 0, 0, 0, 0) ~ " + 20 * n);
        }
        lines.add("feed(0, 0, 0, 0, 0) ~ -1");
        lines.add("status() ~ 5");
        run("promise 2: feed() has none, with NONE, too", lines);
    }

    /** Promises 3 and 7: all corners of all STARTS, by the ten STEPS; behind STEP 9 comes STEP 0. */
    private static void startsAndSteps() {
        List<String> wheel = new ArrayList<>();
        for (int i = 0; i < 10; i++) {
            int odd = i % 2;
            addCorner(wheel, i, 0, new int[4]);
            addCorner(wheel, i, 1, STEPS[odd == 1 ? i : (i + 1) % 10]);
            addCorner(wheel, i, 2, STEPS[odd == 1 ? (i + 1) % 10 : i]);
        }
        run("STARTS: 0 WHEEL", wheel);
        oneStart(1, new int[][] {new int[4], STEPS[0], STEPS[1]});
        oneStart(2, new int[][] {new int[4], STEPS[0], STEPS[3]});
        oneStart(3, new int[][] {new int[4], STEPS[0], STEPS[3], {1, 0, 0, 1}, STEPS[0], STEPS[3]});
        run("STEP d: of others the rest by ten", "corner(9, 2, 0) = 1", "corner(9, 2, 1) = 0", "corner(9, 1, 0) = 1", "corner(9, 1, 1) = -1",
            "half(9, 6) = 0", "half(0, 6) = 9");
    }

    private static void oneStart(int start, int[][] corners) {
        List<String> lines = new ArrayList<>(List.of("start(" + start + ") = " + corners.length / 3));
        for (int n = 0; n < corners.length; n++) {
            addCorner(lines, n / 3, n % 3, corners[n]);
        }
        run("STARTS: " + start, lines);
    }

    private static void addCorner(List<String> lines, int i, int corner, int[] point) {
        for (int which = 0; which < 4; which++) {
            lines.add("corner(" + i + ", " + corner + ", " + which + ") = " + point[which]);
        }
    }

    private static void startAndLevel() {
        run("promise 3: another START, LEVEL 0", "level(5) = 890", "start(0) = 10", "many(1) = 0", "many(2) = 10", "level(1) = 20", "start(3) = 2",
            "many(0) = 3", "many(1) = 0", "half(0, 2) = -1", "ahead(0, 1) ! 1", "start(3) = 2", "many(0) = 3", "level(3) = 42", "start(3) = 2",
            "many(2) = 2", "start(1) = 1", "level(4) = 34", "start(2) = 1", "many(1) = 0", "start(0) = 10", "many(0) = 0");
        run("promise 3: refused, START and LEVEL stay", "start(2) = 1", "level(5) = 144", "start(4) ! 1", "many(0) = 2", "many(1) = 5",
            "start(-1) ! 1", "many(0) = 2", "many(2) = 144", "half(143, 2) = 54");
        run("promise 4: 0 to 5, up and down", "level(5) = 890", "level(0) = 10", "level(5) = 890", "level(4) = 340", "level(5) = 890",
            "level(5) = 890", "level(1) = 20", "level(0) = 10", "level(0) = 10", "many(1) = 0", "corner(0, 1, 1) = 1", "corner(0, 1, 0) = 0");
        run("promise 4: refused, LEVEL stays", "level(2) = 50", "level(6) ! 1", "many(1) = 2", "many(2) = 50", "level(-1) ! 1", "many(1) = 2",
            "half(49, 2) = 19", "level(3) = 130");
    }

    private static void manyOf(int start, int level, int... due) {
        List<String> lines = new ArrayList<>(List.of("start(" + start + ") ? 0", "level(" + level + ") ? 0"));
        for (int what = 0; what < due.length; what++) {
            lines.add("many(" + what + ") = " + due[what]);
        }
        run("promise 5, START " + start + ", LEVEL " + level, lines);
    }

    /** The least patches there are, told by hand; then those with INNER POINTS that have a HALF in no RHOMB. */
    private static void many() {
        manyOf(0, 0, 0, 0, 10, 10, 0, 0, 11, 1, 10, 10, 0, 10, 0, 0, 0);
        manyOf(1, 0, 1, 0, 1, 1, 0, 0, 3, 0, 2, 0, 0, 1, 0, 0, 0);
        manyOf(1, 1, 1, 1, 2, 1, 1, 0, 4, 0, 3, 1, 0, 2, 0, 0, 0);
        manyOf(2, 0, 2, 0, 1, 0, 1, 0, 3, 0, 2, 0, 0, 1, 0, 0, 0);
        manyOf(2, 1, 2, 1, 3, 1, 2, 0, 5, 0, 4, 2, 0, 3, 0, 0, 0);
        manyOf(3, 0, 3, 0, 2, 0, 2, 1, 4, 0, 4, 0, 0, 0, 0, 0, 0);
        manyOf(3, 1, 3, 1, 6, 2, 4, 1, 7, 1, 7, 5, 0, 4, 0, 0, 0);
        String[] lines = new String[30];
        for (int n = 0; n < 24; n++) {
            lines[n] = "lay(0, " + 3 * n + ", 0, 0, 0, 0, 0) = " + n;
        }
        lines[24] = "many(13) = 24";
        lines[25] = "many(14) = 96";
        lines[26] = "lay(0, 99, 0, 0, 0, 0, 0) ! 3";
        lines[27] = "many(13) = 24";
        lines[28] = "many(14) = 96";
        lines[29] = "many(15) ! 1";
        run("promise 5: RHOMBS on the TABLE, POINTS of it, at the most", lines);
    }

    private static void nones() {
        run("promise 6, 2 and 3: NONE: LEVEL is 0", "half(0, 2) = -1", "half(0, 3) = -1", "half(9, 2) = -1", "half(9, 3) = -1", "level(1) = 20",
            "half(0, 2) = 0", "half(0, 3) = 0", "half(1, 3) = 1", "half(2, 2) = 1", "half(19, 2) = 9", "level(0) = 10", "half(9, 2) = -1");
        run("promise 6, 4: NONE", "half(0, 4) = -1", "level(1) = 20", "half(0, 4) = 2", "half(2, 4) = 0", "half(1, 4) = 19", "half(19, 4) = 1",
            "level(2) = 50", "half(1, 4) = -1", "start(1) = 1", "half(0, 4) = -1", "start(2) = 1", "half(0, 4) = -1", "start(3) = 2",
            "half(0, 4) = 1", "half(1, 4) = 0");
        run("promise 6, 5 and 6: NONE", "half(0, 5) = 1", "half(0, 6) = 9", "start(1) = 1", "half(0, 5) = -1", "half(0, 6) = -1", "level(1) = 2",
            "half(0, 5) = 1", "half(0, 6) = -1", "half(1, 5) = 0", "half(1, 6) = -1", "start(3) = 2", "half(0, 5) = -1", "half(1, 6) = -1");
        run("promises 7, 14: STATUS tells NONE from -1", "corner(4, 1, 0) = -1", "corner(10, 1, 0) ! 2", "corner(4, 3, 0) ! 1",
            "start(3) = 2", "square(0, 1, 1) = -2", "square(0, 2, 1) ! 2");
        run("promise 15: 0, less than 0", "drawn(0, 0, 0) = 0", "drawn(0, 0, 1) = 0", "drawn(4, 1, 0) = -1082130432", "drawn(4, 1, 1) = 0",
            "drawn(0, 2, 0) = 1065353216", "drawn(0, 2, 1) = 0", "drawn(7, 1, 0) = " + Float.floatToIntBits(-0.309016994375f),
            "drawn(7, 1, 1) = " + Float.floatToIntBits(-0.951056516295f));
    }

    private static void addresses() {
        run("promise 8: 1 below 0, 5", "leads(-1) ! 1", "leads(0) = 0", "leads(9) = 9", "leads(10) ! 5", "start(1) = 1", "leads(0) = 0",
            "leads(1) ! 5", "leads(-1) ! 1", "start(2) = 1", "leads(0) = 0", "leads(1) ! 5", "start(3) = 2", "leads(1) = 1", "leads(2) ! 5");
        // A thin HALF has no part 2; a thick one has, and that is thin.
        run("promise 8: digits by threes", "start(1) = 1", "level(1) = 2", "leads(0) = 0", "leads(1) = 1", "leads(2) ! 5", "leads(3) ! 5",
            "level(2) = 5", "leads(1) = 1", "leads(2) ! 5", "leads(3) = 2", "leads(4) = 3", "leads(5) = 4", "leads(6) ! 5", "leads(9) ! 5",
            "start(2) = 1", "level(1) = 3", "leads(2) = 2", "leads(3) ! 5", "level(2) = 8", "leads(6) = 6", "leads(7) = 7", "leads(8) ! 5",
            "leads(9) ! 5");
        // 1 2 1 2 1 behind the START's 9: a thin one's last part, a thick one's last part, and so on.
        run("promise 8: the last ADDRESS there is", "level(5) = 890", "leads(2338) = 889", "leads(2339) ! 5", "leads(2429) ! 5", "leads(2430) ! 5",
            "half(889, 1) = 2338", "leads(2187) = 801", "leads(0) = 0", "leads(2147483647) ! 5");
        run("promise 10: n up to LEVEL", "level(5) = 890", "ahead(889, 0) = 889", "ahead(889, 1) = 339", "ahead(889, 2) = 129", "ahead(889, 3) = 49",
            "ahead(889, 4) = 19", "ahead(889, 5) = 9", "ahead(889, 6) ! 1", "ahead(0, 5) = 0", "ahead(89, 5) = 1", "ahead(88, 5) = 0",
            "level(1) = 20", "ahead(19, 1) = 9", "ahead(19, 2) ! 1", "level(0) = 10", "ahead(9, 0) = 9", "ahead(9, 1) ! 1", "ahead(9, -1) ! 1");
    }

    private static void locate() {
        run("promise 9: a CORNER of one alone, of several: the least", "locate(0, 0, 0, 0) = 0", "locate(1, 0, 0, 0) = 0", "locate(0, 1, 0, 0) = 0",
            "locate(0, 0, 1, 0) = 1", "locate(0, 0, 0, 1) = 2", "locate(-1, 1, -1, 1) = 3", "locate(-1, 0, 0, 0) = 4",
            "locate(0, -1, 0, 0) = 5", "locate(0, 0, -1, 0) = 6", "locate(0, 0, 0, -1) = 7", "locate(1, -1, 1, -1) = 8", "start(1) = 1",
            "locate(0, 0, 0, 0) = 0", "locate(1, 0, 0, 0) = 0", "locate(0, 1, 0, 0) = 0", "locate(0, 0, 1, 0) ! 5");
        // GOLD less 1 times a STEP lies on a LEG: 0, 0, 1, -1 on STEP 0; 0, 0, -1, 1 on STEP 5.
        run("promise 9: on a LEG, of two HALVES the lesser", "locate(0, 0, 1, -1) = 0", "locate(0, 0, -1, 1) = 4", "start(1) = 1",
            "locate(0, 0, 1, -1) = 0", "locate(0, 0, -1, 1) ! 5", "start(2) = 1", "locate(0, 0, 1, -1) = 0", "locate(0, 0, -1, 1) ! 5");
        // The BASE of the thick one is GOLD long, the way of STEP 4: B and STEP 4 lies on it, B less STEP 4 and B and STEP 4 twice beyond it.
        run("promise 9: on the BASE, beyond its ends", "start(2) = 1", "locate(0, 1, -1, 1) = 0", "locate(2, -1, 1, -1) ! 5",
            "locate(-1, 2, -2, 2) ! 5", "start(3) = 2", "locate(0, 1, -1, 1) = 0", "locate(1, 0, 0, 1) = 1", "locate(2, -1, 1, -1) ! 5",
            "locate(-1, 2, -2, 2) ! 5");
    }

    private static void growth() {
        run("promise 11: n 0 to 40", "grown(0, 0, 0) = 1", "grown(0, 1, 0) = 0", "grown(0, 0, 39) = 5527939700884757",
            "grown(0, 1, 39) = 8944394323791464", "grown(0, 0, 40) = 14472334024676221", "grown(0, 1, 40) = 23416728348467685",
            "grown(0, 0, 41) ! 1", "start(2) = 1", "grown(0, 0, 0) = 0", "grown(0, 1, 0) = 1", "grown(0, 0, 40) = 23416728348467685",
            "grown(0, 1, 40) = 37889062373143906", "grown(0, 1, 41) ! 1", "grown(0, 1, -1) ! 1", "level(5) = 144", "grown(143, 0, 0) = 1",
            "grown(143, 1, 0) = 0", "grown(144, 1, 0) ! 2", "grown(0, 1, 40) = 37889062373143906");
        run("promise 12: none of a KIND", "area(0) = 10", "area(1) = 0", "start(2) = 1", "area(0) = 0", "area(1) = 1", "start(1) = 1", "area(0) = 1",
            "area(1) = 0", "level(5) = 89", "area(0) = 34", "area(1) = 55");
    }

    private static void distances() {
        run("promise 13: as far is not less far", "nearer(0, 0, 0, 0) = 0", "nearer(0, 1, 2, 3) = 0", "start(3) = 2", "nearer(0, 1, 0, 1) = 0",
            "nearer(0, 1, 1, 0) = 0", "nearer(0, 0, 1, 1) = 0", "nearer(0, 0, 0, 1) = 1", "nearer(0, 1, 0, 0) = 0", "nearer(1, 1, 1, 0) = 1");
        run("promise 14: of one HALF", "square(0, 0, 0) = 0", "square(0, 0, 1) = 0", "start(3) = 2", "square(1, 1, 0) = 0", "square(1, 1, 1) = 0",
            "square(0, 1, 0) = 6", "square(1, 0, 0) = 6");
    }

    private static String[] picks(int count, String... behind) {
        List<String> lines = new ArrayList<>(List.of("row(0) = 0"));
        for (int n = 1; n <= count; n++) {
            lines.add("pick(" + n % 10 + ") = " + n);
        }
        lines.addAll(List.of(behind));
        return lines.toArray(new String[0]);
    }

    private static void rows() {
        run("promise 16: 0 ahead of any", "row(0) = 0", "row(0) = 0", "pick(0) = 1", "row(1) = 1", "row(0) = 0");
        run("promise 16: refused, there is no ROW yet", "row(2) ! 1", "pick(0) ! 5", "putBy() ! 5", "row(-1) ! 1", "pick(0) ! 5", "row(1) = 0");
        run("promise 16: refused, the ROW and its KIND stay", "row(0) = 0", "pick(3) = 1", "row(2) ! 1", "pick(4) = 2", "row(-1) ! 1", "pick(4) = 3",
            "picked(0, 2, 0) = 0", "row(0) = 3");
        run("promise 16: empty; how many the one ahead had", picks(12, "row(1) = 12", "picked(0, 0, 0) ! 5", "row(1) = 0", "pick(0) ! 6", "row(0) = 0",
            "pick(0) = 1", "row(0) = 1"));
        run("promise 17: 3: more than 12", picks(11, "pick(1) = 12", "pick(2) ! 3", "pick(3) ! 3", "picked(0, 11, 0) = 0", "picked(0, 12, 0) ! 5",
            "putBy() = 12", "pick(0) ! 3", "row(0) = 12", "pick(0) = 1"));
        run("promise 17: 2 ahead of 3, 5 and 6", picks(12, "pick(10) ! 2", "pick(-1) ! 2", "row(1) = 12", "pick(10) ! 2", "pick(9) ! 6"));
        run("promise 17: 2 ahead of 5", "pick(10) ! 2", "pick(-1) ! 2", "pick(9) ! 5", "pick(0) ! 5");
        run("promise 17: 3 ahead of 6", picks(12, "start(2) = 1", "pick(0) ! 3", "pick(1) ! 2", "row(0) = 12", "pick(0) ! 6", "row(1) = 0",
            "pick(0) = 1"));
        run("promise 17: 6: it is of the other KIND", "level(1) = 20", "row(0) = 0", "pick(1) ! 6", "pick(0) = 1", "pick(19) ! 6", "pick(18) = 2",
            "row(1) = 2", "pick(0) ! 6", "pick(1) = 1", "pick(18) ! 6", "pick(19) = 2");
        run("promise 17: one HALF more than once, of several patches", "level(1) = 20", "row(1) = 0", "pick(1) = 1", "pick(1) = 2", "start(2) = 1",
            "pick(0) = 3", "level(1) = 3", "pick(1) = 4", "picked(0, 0, 1) = 1", "picked(0, 1, 1) = 1", "picked(0, 2, 1) = 0", "picked(0, 3, 2) = 1",
            "picked(0, 3, 3) = -1", "picked(0, 4, 0) ! 5");
    }

    private static void putBy() {
        run("promise 18: 5: there is none", "putBy() ! 5", "row(3) ! 1", "putBy() ! 5", "picked(1, 0, 0) ! 5", "row(0) = 0", "putBy() = 0");
        run("promise 18: an empty ROW is one, and takes the place of what was put by", "row(0) = 0", "pick(0) = 1", "putBy() = 1", "picked(1, 0, 0) = 0",
            "row(1) = 1", "picked(1, 0, 0) = 0", "putBy() = 0", "picked(1, 0, 0) ! 5", "putBy() = 0");
        run("promise 18: as it is now", "level(1) = 20", "row(1) = 0", "pick(1) = 1", "putBy() = 1", "pick(3) = 2", "picked(1, 1, 0) ! 5",
            "picked(0, 1, 0) ? 0", "putBy() = 2", "picked(1, 1, 0) ? 0", "picked(1, 2, 0) ! 5", "row(0) = 2", "picked(1, 1, 0) ? 0", "picked(0, 0, 0) ! 5");
        run("promise 18: twelve", picks(12, "putBy() = 12", "picked(1, 11, 3) = 0", "picked(1, 12, 3) ! 5", "row(0) = 12", "picked(1, 11, 3) = 0",
            "picked(0, 0, 0) ! 5", "putBy() = 0", "picked(1, 0, 0) ! 5"));
        // At LEVEL 1 CORNER A of HALF 0 is STEP 0 times GOLD: 1, 0, 1, -1.
        run("promise 19: STATUS tells NONE from -1", "level(1) = 20", "row(0) = 0", "pick(0) = 1", "picked(0, 0, 3) = -1", "putBy() = 1",
            "picked(1, 0, 3) = -1", "picked(1, 0, 4) ! 1", "picked(1, 1, 3) ! 5", "picked(1, -1, 3) ! 1", "picked(0, 1, 3) ! 5", "picked(0, -1, 3) ! 1");
    }

    private static void common() {
        run("promise 20: LEVEL: they are one", "common(0, 0) = 0", "common(9, 9) = 0", "level(1) = 20", "common(19, 19) = 1", "level(5) = 890",
            "common(0, 0) = 5", "common(889, 889) = 5");
        run("promise 20: up to LEVEL less 1, 0, in none", "level(5) = 890", "common(0, 1) = 4", "common(0, 88) = 0", "common(88, 0) = 0",
            "common(0, 89) ! 5", "common(88, 89) ! 5", "common(0, 889) ! 5", "common(0, 890) ! 2", "common(-1, 890) ! 2", "start(2) = 1",
            "level(5) = 144", "common(0, 143) = 0", "start(3) = 2", "common(0, 1) ! 5", "level(1) = 6", "common(0, 2) = 0", "common(2, 3) ! 5");
    }

    private static void walks() {
        run("promise 21: none from a HALF to itself", "steps(0, 0) = 0", "steps(9, 9) = 0", "steps(0, 5) = 5", "steps(5, 0) = 5", "steps(0, 6) = 4",
            "start(1) = 1", "steps(0, 0) = 0", "steps(0, 1) ! 2", "start(3) = 2", "steps(0, 1) = 1", "steps(1, 0) = 1", "start(0) = 10",
            "level(5) = 890", "steps(0, 461) = 43", "steps(461, 0) = 43", "steps(889, 889) = 0");
        run("promise 22: 0, up to 40 steps, it too", "around(0, 0) = 1", "around(0, 1) = 3", "around(0, 4) = 9", "around(0, 5) = 10",
            "around(0, 40) = 10", "start(1) = 1", "around(0, 0) = 1", "around(0, 40) = 1", "start(0) = 10", "level(5) = 890", "around(0, 0) = 1",
            "around(0, 39) = 832", "around(0, 40) = 852", "around(0, 41) ! 1", "around(889, 40) = 890");
    }

    private static void ribbons() {
        run("promise 23: 5: it is in no RHOMB", "ribbon(0, 0, 0) ! 5", "ribbon(9, 1, 1) ! 5", "start(1) = 1", "ribbon(0, 1, 0) ! 5", "start(2) = 1",
            "ribbon(0, 0, 1) ! 5", "level(1) = 3", "ribbon(0, 0, 0) ! 5", "ribbon(1, 0, 0) ! 5", "ribbon(2, 0, 0) ! 5");
        run("promise 23: one RHOMB alone", "start(3) = 2", "ribbon(0, 0, 0) = 1", "ribbon(0, 1, 0) = 1", "ribbon(1, 0, 0) = 1", "ribbon(1, 1, 0) = 1",
            "ribbon(0, 0, 1) = 0", "ribbon(1, 0, 1) = 0", "level(1) = 6", "ribbon(1, 0, 0) = 1", "ribbon(1, 1, 1) = 1", "ribbon(4, 0, 0) = 1",
            "ribbon(4, 1, 1) = 1", "ribbon(0, 0, 0) ! 5");
        run("promise 23: to both sides as far as there are any", "level(1) = 20", "ribbon(0, 0, 0) = 4", "ribbon(0, 0, 1) = 0", "ribbon(1, 1, 1) = 1",
            "ribbon(4, 1, 1) = 4", "ribbon(8, 1, 1) = 8", "ribbon(10, 0, 1) = 8", "start(2) = 1", "level(2) = 8", "ribbon(0, 0, 0) = 1",
            "ribbon(0, 1, 0) = 2", "ribbon(7, 0, 0) = 2", "ribbon(5, 0, 1) = 5", "ribbon(5, 1, 1) = 0", "ribbon(1, 0, 0) ! 5");
    }

    /** The wheel is itself behind every second turn, mirrored or not; the others behind none but the whole one. */
    private static void likeness() {
        for (int level : new int[] {0, 1, 5}) {
            List<String> lines = new ArrayList<>(List.of("level(" + level + ") ? 0"));
            for (int k = 0; k < 10; k++) {
                lines.add("like(" + k + ", false) = " + (1 - k % 2));
                lines.add("like(" + k + ", true) = " + (1 - k % 2));
            }
            run("promise 24: 0 to 9, the wheel at LEVEL " + level, lines);
        }
        for (int start = 1; start < 4; start++) {
            List<String> lines = new ArrayList<>(List.of("start(" + start + ") ? 0"));
            for (int k = 0; k < 10; k++) {
                lines.add("like(" + k + ", false) = " + (k == 0 ? 1 : 0));
                lines.add("like(" + k + ", true) = 0");
            }
            run("promise 24: CORNER by CORNER, START " + start, lines);
        }
    }

    private static void sides() {
        run("promise 25: d or d and 5, each once", "legs(0) = 2", "legs(1) = 2", "legs(2) = 2", "legs(3) = 2", "legs(4) = 2", "start(1) = 1",
            "legs(0) = 1", "legs(1) = 1", "legs(2) = 0", "legs(3) = 0", "legs(4) = 0", "start(3) = 2", "legs(0) = 2", "legs(3) = 2", "legs(1) = 0",
            "legs(2) = 0", "legs(4) = 0", "level(1) = 6", "legs(5) ! 1");
        run("promise 26: of one HALF alone", "border(0) = 0", "border(1) = 10", "level(1) = 20", "border(0) = 10", "border(1) = 0", "start(1) = 1",
            "border(0) = 2", "border(1) = 1", "start(2) = 1", "border(0) = 2", "border(1) = 1", "start(3) = 2", "border(0) = 4", "border(1) = 0");
        run("promise 27: 1, 10 TENTHS", "tenths(0, 0) = 10", "tenths(0, 1) = 4", "start(1) = 1", "tenths(0, 0) = 1", "tenths(0, 1) = 2", "tenths(0, 2) = 2",
            "start(2) = 1", "tenths(0, 0) = 3", "tenths(0, 1) = 1", "tenths(0, 2) = 1", "start(3) = 2", "tenths(0, 0) = 3", "tenths(0, 1) = 2",
            "level(1) = 6", "tenths(0, 0) = 10", "many(7) = 1");
    }

    private static void figures() {
        run("promise 28: 5: it is not INNER", "level(1) = 20", "tenths(0, 0) = 4", "figure(0, 0) ! 5", "tenths(0, 1) = 10", "figure(0, 1) = 130",
            "start(3) = 2", "figure(0, 0) ! 5", "figure(1, 1) ! 5", "figure(1, 2) ! 5");
        run("promise 28: 5: it has HALVES that are in no RHOMB", "tenths(0, 0) = 10", "figure(0, 0) ! 5", "level(2) = 50", "tenths(1, 0) = 10",
            "half(1, 4) = -1", "figure(1, 0) ! 5", "tenths(0, 1) = 10", "half(0, 4) ? 0", "figure(0, 1) ! 5", "start(3) = 2", "level(1) = 6",
            "tenths(0, 0) = 10", "figure(0, 0) ! 5", "many(7) = 1", "many(12) = 0", "atlas(0) ! 5");
        run("promise 29: rising, the first and the last", "level(1) = 20", "many(12) = 2", "atlas(0) = 130", "atlas(1) = 16806", "atlas(2) ! 5",
            "level(2) = 50", "many(12) = 3", "atlas(0) = 174", "atlas(2) = 14005", "atlas(3) ! 5", "level(0) = 10", "many(12) = 0", "atlas(0) ! 5",
            "atlas(-1) ! 1");
        run("promise 30: none has it", "having(0) = 0", "having(130) = 0", "having(-1) ! 1", "level(1) = 20", "having(130) = 5", "having(16806) = 1",
            "having(129) = 0", "having(131) = 0", "having(174) = 0", "having(2147483647) = 0", "level(0) = 10", "having(130) = 0");
    }

    private static void comes() {
        run("promise 31: LEVEL 1 to 5, by none", "comes(0, 130) = 1", "comes(0, 16806) = 1", "comes(0, 14005) = 2", "comes(1, 174) = 3",
            "comes(1, 130) = 4", "comes(3, 14005) = 5", "comes(1, 1371) = 5", "comes(2, 21208) = 5", "comes(1, 14005) ! 5", "comes(2, 14005) ! 5",
            "comes(1, 21208) ! 5", "comes(0, 0) ! 5", "comes(0, 129) ! 5");
        run("promise 31: whatever START and LEVEL the PATCH has", "start(1) = 1", "level(5) = 89", "comes(0, 130) = 1", "comes(3, 14005) = 5",
            "comes(1, 14005) ! 5", "many(0) = 1", "many(1) = 5", "many(2) = 89", "having(14005) = 0", "level(0) = 1", "comes(1, 174) = 3",
            "many(2) = 1", "comes(4, 174) ! 1", "comes(-1, 174) ! 1", "comes(1, -1) ! 1", "many(12) = 0");
    }
}

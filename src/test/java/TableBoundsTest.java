import java.util.ArrayList;
import java.util.Arrays;
import java.util.List;

/**
 * Promises 32 to 45 and 51 and 'Terms', part 3 and 4, sentence by sentence where they name a bound: the TABLE empty and
 * full, RHOMBS that just touch, directions that wrap round, POINTS all TAKEN, what comes first where two STATUSES hold.
 */
public final class TableBoundsTest {
    private static final Check CHECK = new Check();
    /** Alone a thick RHOMB forces nothing, and no POINT of it is DEAD. */
    private static final String FULL = thicks(24);

    public static void main(String[] args) {
        corners();
        far();
        full();
        touching();
        cornerWithin();
        marks();
        borrow();
        borrowAll();
        takeAndClear();
        points();
        gaps();
        ways();
        holes();
        forceBounds();
        forceFirsts();
        forceWraps();
        edges();
        CHECK.end("TableBoundsTest");
    }

    private static void run(String name, String... lines) {
        Script.run(CHECK, name, lines);
    }

    private static void run(String name, List<String> lines) {
        Script.run(CHECK, name, lines.toArray(new String[0]));
    }

    private static String thicks(int count) {
        StringBuilder text = new StringBuilder();
        for (int n = 0; n < count; n++) {
            text.append("thick").append(20 + 3 * n).append(" 0 0 0turn0hand0;");
        }
        return text.toString();
    }

    private static int[] sum(int[]... points) {
        int[] sum = new int[4];
        for (int[] point : points) {
            for (int which = 0; which < 4; which++) {
                sum[which] += point[which];
            }
        }
        return sum;
    }

    /** STEP (d and w), STEP (d less w): by the rest by ten, for all d, both KINDS and HANDS. */
    private static void corners() {
        int[] a = {7, -7, 0, 1};
        for (int n = 0; n < 40; n++) {
            int kind = n / 20;
            int hand = n / 10 % 2;
            int d = n % 10;
            int w = kind == 0 ? 1 : 3;
            int[] toB = PatchBoundsTest.STEPS[d];
            int[] toC = PatchBoundsTest.STEPS[(d + (hand == 0 ? w : 10 - w)) % 10];
            int[][] due = {a, sum(a, toB), sum(a, toB, toC), sum(a, toC)};
            List<String> lines = new ArrayList<>();
            lines.add("lay(" + kind + ", 7, -7, 0, 1, " + d + ", " + hand + ") = 0");
            for (int corner = 0; corner < 4; corner++) {
                lines.add("pointOf(0, " + corner + ") = " + corner);
                for (int which = 0; which < 4; which++) {
                    lines.add("spot(0, " + corner + ", " + which + ") = " + due[corner][which]);
                }
            }
            lines.addAll(List.of("rhomb(0, 0) = " + kind, "rhomb(0, 1) = " + d, "rhomb(0, 2) = " + hand, "gaps(0, 0) = 1",
                "gaps(0, 1) = " + (10 - w), "gaps(1, 1) = " + (5 + w), "gaps(2, 1) = " + (10 - w), "gaps(3, 1) = " + (5 + w),
                "taken(0) = " + w, "taken(1) = " + (5 - w)));
            run("promises 36 and 37: STEP (d and w), by the rest by ten", lines);
        }
    }

    /** A lies within -999 to 999; its other corners may lie beyond. */
    private static void far() {
        run("promise 32: A at -999 to 999", "lay(1, 999, 999, 999, 999, 0, 0) = 0", "spot(0, 1, 0) = 1000", "spot(0, 2, 0) = 1000", "spot(0, 2, 3) = 1000",
            "lay(1, -999, -999, -999, -999, 5, 0) = 1", "spot(1, 1, 0) = -1000", "spot(1, 3, 3) = -1000", "lay(0, 1000, 0, 0, 0, 0, 0) ! 1",
            "lay(0, 0, 0, 0, 1000, 0, 0) ! 1", "lay(0, 0, 0, 0, -1000, 0, 0) ! 1", "lay(0, 0, -1000, 0, 0, 0, 0) ! 1", "lay(0, 0, 0, -1000, 0, 0, 0) ! 1",
            "many(13) = 2", "taken(1) = 2", "ways(1) = 17");
    }

    private static void full() {
        run("promise 32: 3: the 24th and one too many", "load '" + thicks(23) + "' = 23", "lay(1, 0, 0, 0, 0, 0, 0) = 23", "lay(1, 9, 0, 0, 0, 0, 0) ! 3",
            "many(13) = 24", "many(14) = 96", "rhomb(24, 0) ! 2", "take(0) = 23", "lay(1, 9, 0, 0, 0, 0, 0) = 23", "lay(1, 5, 0, 0, 0, 0, 0) ! 3");
        run("promise 32: 1 ahead of 3 ahead of 6 ahead of 7", "load '" + FULL + "' = 24", "lay(1, 20, 0, 0, 0, 0, 2) ! 1", "lay(1, 20, 0, 0, 0, 10, 0) ! 1",
            "lay(1, 1000, 0, 0, 0, 0, 0) ! 1", "lay(2, 20, 0, 0, 0, 0, 0) ! 1", "lay(1, 20, 0, 0, 0, 0, 0) ! 3", "lay(0, 20, 0, 0, 0, 0, 1) ! 3",
            "take(23) = 23", "lay(1, 20, 0, 0, 0, 0, 2) ! 1", "lay(1, 20, 0, 0, 0, 0, 0) ! 6", "lay(0, 20, 0, 0, 0, 0, 1) ! 7",
            "lay(0, 20, 0, 0, 0, 0, 0) ! 6", "lay(1, 89, 0, 0, 0, 0, 0) = 23");
        run("promise 33: 3: the 24th and one too many", "load '" + thicks(22) + "' = 22", "level(1) = 20", "borrow(0) = 22", "borrow(1) = 23", "borrow(3) ! 3",
            "borrow(0) ! 3", "many(13) = 24", "take(23) = 23", "borrow(0) ! 6", "borrow(3) = 23");
        run("promise 47: the 24th and one too many", "load '" + thicks(23) + "' = 23", "load '" + FULL + "' = 24", "load '" + thicks(25) + "' ! 9",
            "fault(0) ~ 4", "many(13) = 24", "load '" + thicks(1) + "' = 1");
    }

    private static void touching() {
        // At 0, STEP 0 and STEP 3, and the other A, with nothing but that corner in common.
        run("promise 32: no inside in common: a corner alone", "lay(1, 0, 0, 0, 0, 0, 0) = 0", "lay(0, 0, 0, 0, 0, 5, 0) = 1", "lay(0, 1, 0, 0, 0, 0, 0) = 2",
            "lay(0, 0, 0, 0, 1, 4, 0) = 3", "lay(0, 1, 0, 0, 1, 1, 0) = 4", "taken(0) = 4", "gaps(0, 0) = 2", "meeting(0) = 0", "open() = 20");
        run("promise 32: no inside in common: an edge alone", "lay(1, 0, 0, 0, 0, 0, 0) = 0", "lay(1, 0, 0, 0, 0, 0, 1) = 1", "meeting(0) = 1", "taken(0) = 6",
            "lay(0, 0, 0, 0, 0, 4, 1) = 2", "meeting(0) = 2", "taken(0) = 7");
        run("promise 32: 6: it would lie on one", "lay(1, 0, 0, 0, 0, 0, 0) = 0", "lay(1, 0, 0, 0, 0, 0, 0) ! 6", "lay(1, 0, 0, 0, 0, 3, 1) ! 6",
            "lay(1, 1, 0, 0, 1, 5, 0) ! 6", "lay(1, 1, 0, 0, 1, 8, 1) ! 6", "lay(0, 0, 0, 0, 0, 0, 0) ! 6", "lay(0, 0, 0, 0, 0, 2, 0) ! 6",
            "lay(0, 0, 0, 0, 0, 1, 0) ! 6", "lay(1, 0, 0, 0, 0, 9, 0) ! 6", "lay(1, 0, 0, 0, 0, 2, 0) ! 6", "many(13) = 1", "lay(0, 0, 0, 0, 0, 9, 1) = 1");
        run("promise 32: 6 ahead of 7, whichever was laid first", "lay(0, -1, 0, 0, 0, 9, 0) = 0", "lay(1, 0, 0, 0, 0, 0, 0) = 1", "lay(1, 1, 0, 0, 0, 5, 0) ! 6",
            "take(0) = 1", "lay(1, 1, 0, 0, 0, 5, 0) ! 7", "lay(0, -1, 0, 0, 0, 9, 0) = 1", "lay(1, 1, 0, 0, 0, 5, 0) ! 6");
    }

    /** GOLD less 1 (0, 0, 1, -1) lies on STEP 0, within it; nothing but that corner is in common. */
    private static void cornerWithin() {
        run("promise 32: 6: a corner of it within an edge that is there", "lay(1, 0, 0, 0, 0, 0, 0) = 0", "lay(0, 0, 0, 1, -1, 8, 0) ! 6",
            "lay(0, 0, 0, 1, -1, 6, 0) ! 6", "lay(0, 0, 0, 0, 0, 8, 0) = 1", "lay(0, 1, 0, 0, 0, 8, 0) = 2");
        run("promise 32: 6: a corner that is there within an edge of it", "lay(0, 0, 0, 1, -1, 8, 0) = 0", "lay(1, 0, 0, 0, 0, 0, 0) ! 6",
            "lay(1, 1, 0, 0, 0, 5, 1) ! 6", "lay(1, 0, 0, 1, -1, 0, 0) = 1");
        // Moved along an edge that both have the line of: by less than a STEP, by a STEP, by more.
        run("promise 32: 6: part of an edge in common", "lay(1, 0, 0, 0, 0, 0, 0) = 0", "lay(1, 0, 0, 1, -1, 0, 1) ! 6", "lay(1, 0, 0, -1, 1, 0, 1) ! 6",
            "lay(1, 1, 0, 0, 0, 0, 1) = 1", "lay(1, -1, 0, 0, 0, 0, 1) = 2", "clear() = 3", "lay(1, 0, 0, 0, 0, 0, 0) = 0", "lay(1, 1, 0, 1, -1, 0, 1) = 1");
    }

    private static void marks() {
        // On the edge from 0 to STEP 0 a thick RHOMB has MARK 0 and an arrow to 0; below it each time another one.
        run("promise 32: 7: the arrow is another one", "lay(1, 0, 0, 0, 0, 0, 0) = 0", "lay(0, 0, 0, 0, 0, 0, 1) ! 7", "lay(1, 1, 0, 0, 0, 5, 0) ! 7",
            "many(13) = 1", "lay(0, 1, 0, 0, 0, 5, 0) = 1");
        run("promise 32: 7: the MARK is another one", "lay(1, 0, 0, 0, 0, 0, 0) = 0", "lay(0, 1, 0, 0, 0, 6, 1) ! 7", "lay(1, 1, 0, 0, 0, 8, 1) ! 7",
            "many(13) = 1", "lay(1, 0, 0, 0, 0, 0, 1) = 1");
        run("promise 32: 7: both are", "lay(1, 0, 0, 0, 0, 0, 0) = 0", "lay(0, 0, 0, 0, 0, 9, 0) ! 7", "lay(1, 0, 0, 0, 0, 7, 0) ! 7", "many(13) = 1");
        // One edge meets, another one does not: between two thick ones round 0 there is one TENTH, with MARK 1 out of it and MARK 0 into it.
        run("promise 32: 7: one of two edges", "lay(1, 0, 0, 0, 0, 0, 0) = 0", "lay(1, 0, 0, 0, 0, 4, 0) = 1", "ways(0) = 0", "lay(0, 0, 0, 0, 0, 4, 1) ! 7",
            "lay(0, 0, 0, 0, 0, 3, 0) ! 7", "take(1) = 1", "lay(0, 0, 0, 0, 0, 4, 1) = 1");
        run("promise 33: 7, ahead of it 6", "level(1) = 20", "lay(1, 1, 0, 1, -1, 4, 0) = 0", "borrow(0) ! 7", "borrow(2) ! 7", "many(13) = 1", "clear() = 1",
            "borrow(0) = 0", "borrow(0) ! 6", "borrow(2) ! 6");
    }

    private static void borrow() {
        run("promise 33: 5: it is in none", "borrow(0) ! 5", "borrow(9) ! 5", "borrow(10) ! 2", "borrow(-1) ! 2", "many(13) = 0", "start(1) = 1",
            "borrow(0) ! 5", "start(2) = 1", "borrow(0) ! 5", "level(1) = 3", "borrow(2) ! 5", "start(3) = 2", "borrow(1) = 0", "many(13) = 1");
        run("promise 33: by either HALF as the lesser tells", "start(3) = 2", "borrow(1) = 0", "spot(0, 0, 0) = 0", "spot(0, 0, 3) = 0", "spot(0, 1, 0) = 1",
            "spot(0, 2, 3) = 1", "spot(0, 3, 3) = 1", "rhomb(0, 0) = 1", "rhomb(0, 1) = 0", "rhomb(0, 2) = 0", "borrow(0) ! 6", "clear() = 1",
            "borrow(0) = 0", "spot(0, 0, 0) = 0", "spot(0, 0, 3) = 0", "rhomb(0, 1) = 0", "rhomb(0, 2) = 0");
        run("promise 33: 2 ahead of 3 ahead of 5", "load '" + FULL + "' = 24", "borrow(10) ! 2", "borrow(-1) ! 2", "borrow(0) ! 3", "borrow(9) ! 3",
            "level(1) = 20", "borrow(19) ! 3", "borrow(20) ! 2", "level(0) = 10", "take(23) = 23", "borrow(9) ! 5", "borrow(10) ! 2");
        run("promise 33: 3 ahead of 6 and 7", "start(3) = 2", "borrow(0) = 0", "borrow(1) ! 6", "load '" + thicks(23) + "' = 23", "borrow(0) = 23",
            "borrow(0) ! 3", "borrow(1) ! 3", "take(0) = 23", "borrow(0) ! 6");
    }

    /** Every RHOMB of a patch, as it lies there, by either of its HALVES: directions of all ten, on both HANDS. */
    private static void borrowAll() {
        for (int i = 0; i < 50; i++) {
            RhombInflator x = new RhombInflator();
            x.level(2);
            int twin = x.half(i, 4);
            String told = "promise 33: as it lies there: borrow(" + i + ")";
            if (twin == RhombInflator.NONE) {
                CHECK.refuses(x, told, x.borrow(i), 5);
                continue;
            }
            CHECK.gives(x, told, x.borrow(i), 0);
            int lesser = Math.min(i, twin);
            CHECK.due(told + ", KIND", x.rhomb(0, 0), x.half(lesser, 0));
            for (int which = 0; which < 4; which++) {
                CHECK.due(told + ", A", x.spot(0, 0, which), x.corner(lesser, 0, which));
                CHECK.due(told + ", B", x.spot(0, 1, which), x.corner(lesser, 1, which));
                CHECK.due(told + ", the other A", x.spot(0, 2, which), x.corner(Math.max(i, twin), 0, which));
                CHECK.due(told + ", C", x.spot(0, 3, which), x.corner(lesser, 2, which));
            }
            int[] toB = PatchBoundsTest.STEPS[x.rhomb(0, 1)];
            for (int which = 0; which < 4; which++) {
                CHECK.due(told + ", d", x.spot(0, 1, which) - x.spot(0, 0, which), toB[which]);
            }
        }
    }

    private static void takeAndClear() {
        run("promise 34: the first, the last, the only one", "lay(1, 0, 0, 0, 0, 0, 0) = 0", "take(0) = 0", "take(0) ! 2", "many(13) = 0", "many(14) = 0",
            "lay(1, 0, 0, 0, 0, 1, 0) = 0", "lay(0, 9, 0, 0, 0, 2, 1) = 1", "lay(1, 15, 0, 0, 0, 3, 0) = 2", "take(2) = 2", "rhomb(1, 1) = 2",
            "take(2) ! 2", "take(0) = 1", "rhomb(0, 1) = 2", "rhomb(0, 0) = 0", "rhomb(0, 2) = 1", "spot(0, 0, 0) = 9", "take(1) ! 2", "take(-1) ! 2",
            "take(0) = 0");
        run("promise 34: of 24, those behind it come up by one number", "load '" + FULL + "' = 24", "take(24) ! 2", "take(23) = 23", "take(23) ! 2", "take(0) = 22",
            "spot(0, 0, 0) = 23", "spot(21, 0, 0) = 86", "spot(22, 0, 0) ! 2", "take(10) = 21", "spot(9, 0, 0) = 50", "spot(10, 0, 0) = 56",
            "spot(20, 0, 0) = 86", "pointOf(20, 3) = 83", "many(14) = 84");
        run("promise 35: none, one, 24", "clear() = 0", "clear() = 0", "lay(1, 0, 0, 0, 0, 0, 0) = 0", "clear() = 1", "clear() = 0", "load '" + FULL + "' = 24",
            "clear() = 24", "many(13) = 0", "many(14) = 0", "take(0) ! 2", "taken(0) ! 2", "lay(1, 20, 0, 0, 0, 0, 0) = 0");
    }

    private static void points() {
        // Two thick ones with the edge from 0 to STEP 0 in common: the second adds its other A, then its C.
        run("POINTS stand by RHOMBS, A, B, the other A, C, each once", "lay(1, 0, 0, 0, 0, 0, 0) = 0", "lay(1, 0, 0, 0, 0, 0, 1) = 1", "many(14) = 6",
            "pointOf(0, 0) = 0", "pointOf(0, 1) = 1", "pointOf(0, 2) = 2", "pointOf(0, 3) = 3", "pointOf(1, 0) = 0", "pointOf(1, 1) = 1", "pointOf(1, 2) = 4",
            "pointOf(1, 3) = 5", "taken(5) = 2", "taken(6) ! 2", "take(0) = 1", "many(14) = 4", "pointOf(0, 0) = 0", "pointOf(0, 2) = 2", "pointOf(0, 3) = 3",
            "taken(4) ! 2", "taken(3) = 2", "taken(0) = 3");
        run("promises 39 to 41: the last POINT of 96", "load '" + FULL + "' = 24", "taken(95) = 2", "gaps(95, 0) = 1", "gaps(95, 1) = 8", "ways(95) = 5",
            "taken(96) ! 2", "gaps(96, 0) ! 2", "ways(96) ! 2", "gaps(96, 2) ! 1", "pointOf(23, 3) = 95", "pointOf(24, 3) ! 2", "pointOf(24, 4) ! 1");
        run("promise 39: 1 to 10 TENTHS", "lay(0, 0, 0, 0, 0, 0, 0) = 0", "taken(0) = 1", "taken(1) = 4", "lay(0, 0, 0, 0, 0, 2, 1) = 1", "taken(0) = 2",
            "lay(0, 0, 0, 0, 0, 2, 0) = 2", "taken(0) = 3", "clear() = 3", "level(1) = 20", "borrow(1) = 0", "borrow(3) = 1", "borrow(7) = 2", "borrow(11) = 3",
            "taken(3) = 8", "borrow(15) = 4", "taken(3) = 10");
    }

    private static void gaps() {
        run("promise 40: none, if ten are TAKEN; 0 without", "level(1) = 20", "borrow(1) = 0", "borrow(3) = 1", "borrow(7) = 2", "borrow(11) = 3", "gaps(3, 0) = 1",
            "gaps(3, 1) = 2", "borrow(15) = 4", "taken(3) = 10", "gaps(3, 0) = 0", "gaps(3, 1) = 0", "gaps(3, 2) ! 1", "gaps(3, -1) ! 1");
        // Five thin ones with every second TENTH between them free, beginning with the one or the other.
        for (int first = 0; first < 2; first++) {
            List<String> lines = new ArrayList<>();
            for (int n = 0; n < 5; n++) {
                lines.add("lay(0, 0, 0, 0, 0, " + (2 * n + first) + ", 0) = " + n);
            }
            lines.addAll(List.of("taken(0) = 5", "gaps(0, 0) = 5", "gaps(0, 1) = 1", "ways(0) = 1"));
            run("promise 40: five GAPS", lines);
        }
        // A gap from the direction 9 on, and one up to it; the widest of two in either order.
        run("promise 40: past the direction 9", "lay(1, 0, 0, 0, 0, 6, 0) = 0", "gaps(0, 0) = 1", "gaps(0, 1) = 7", "lay(0, 0, 0, 0, 0, 2, 1) = 1", "gaps(0, 0) = 2",
            "gaps(0, 1) = 4", "clear() = 2", "lay(1, 0, 0, 0, 0, 7, 0) = 0", "gaps(0, 1) = 7", "clear() = 1", "lay(1, 0, 0, 0, 0, 8, 0) = 0", "gaps(0, 0) = 1",
            "gaps(0, 1) = 7", "lay(0, 0, 0, 0, 0, 2, 0) = 1", "gaps(0, 0) = 2", "gaps(0, 1) = 5");
        for (int d = 0; d < 10; d++) {
            run("promise 40: the widest there can be, direction " + d, "lay(0, 0, 0, 0, 0, " + d + ", 0) = 0", "gaps(0, 0) = 1", "gaps(0, 1) = 9", "gaps(1, 1) = 6",
                "gaps(2, 1) = 9", "gaps(3, 1) = 6", "ways(0) = 19", "ways(1) = 1", "ways(2) = 19", "ways(3) = 3");
        }
    }

    private static void ways() {
        run("promise 41: 1, if ten are TAKEN", "level(1) = 20", "borrow(1) = 0", "borrow(3) = 1", "borrow(7) = 2", "borrow(11) = 3", "ways(3) = 1", "taken(3) = 8",
            "holes(1) ? 0", "borrow(15) = 4", "ways(3) = 1", "taken(3) = 10", "holes(0) = 1");
        // One TENTH between MARK 0 into the POINT and MARK 1 out of it: a thin A has an arrow out on both sides.
        run("promise 41: none", "lay(1, 0, 0, 0, 0, 0, 0) = 0", "lay(1, 0, 0, 0, 0, 4, 0) = 1", "gaps(0, 0) = 2", "gaps(0, 1) = 3", "ways(0) = 0", "holes(2) ? 0",
            "holes(4) = 0");
        run("promise 41: two GAPS, one of them with none", "lay(1, 0, 0, 0, 0, 0, 0) = 0", "lay(1, 0, 0, 0, 0, 5, 0) = 1", "gaps(0, 0) = 2", "gaps(0, 1) = 2", "ways(0) = 0");
        // The RHOMB that would fill it lies on another one: that is of no matter for WAYS.
        run("WAYS: RHOMBS of others are of no matter", "load 'thin 0 0 0 0 turn 4 hand 0;thin 0 0 0 0 turn 2 hand 0;' = 2", "holes(1) = 2", "holes(2) = 0",
            "force(1) ! 8", "holes(1) = 2");
    }

    private static void holes() {
        run("promise 42: 5: none is FORCED, none is DEAD", "holes(3) ! 5", "holes(4) ! 5", "lay(1, 0, 0, 0, 0, 0, 0) = 0", "holes(1) = 0", "holes(2) = 0", "holes(3) ! 5",
            "holes(4) ! 5", "holes(5) ! 1", "holes(-1) ! 1");
        run("promise 42: the first that is FORCED, DEAD", "lay(1, 30, 0, 0, 0, 0, 0) = 0", "lay(0, 0, 0, 0, 0, 5, 0) = 1", "holes(1) = 1", "holes(3) = 5", "holes(4) ! 5",
            "lay(0, 9, 0, 0, 0, 5, 0) = 2", "holes(1) = 2", "holes(3) = 5", "take(1) = 2", "holes(3) = 5", "take(0) = 1", "holes(3) = 1");
        run("promise 42: FORCED is not all TAKEN", "level(1) = 20", "borrow(1) = 0", "borrow(3) = 1", "borrow(7) = 2", "borrow(11) = 3", "holes(0) = 0", "holes(3) ? 0",
            "borrow(15) = 4", "holes(0) = 1", "ways(3) = 1", "borrow(0) = 5", "borrow(4) = 6", "borrow(8) = 7", "borrow(12) = 8", "borrow(16) = 9", "holes(0) = 6",
            "holes(1) = 0", "holes(2) = 0", "holes(3) ! 5");
    }

    private static void forceBounds() {
        // A thin one alone forces two, one behind the other.
        String thin = "thin 0 0 0 0 turn 5 hand 0;";
        run("promise 43: at most n", "load '" + thin + "' = 1", "force(1) = 1", "many(13) = 2", "force(1) = 1", "many(13) = 3", "force(1) = 0", "many(13) = 3");
        run("promise 43: till no POINT is FORCED", "load '" + thin + "' = 1", "force(2) = 2", "force(24) = 0", "load '" + thin + "' = 1", "force(3) = 2", "load '" + thin + "' = 1",
            "force(24) = 2", "holes(1) = 0");
        run("promise 43: n of 1 to 24", "load '" + thin + "' = 1", "force(0) ! 1", "force(-1) ! 1", "force(25) ! 1", "many(13) = 1", "force(24) = 2");
        run("promise 43: 1 ahead of 8 and 3", "load 'thin 0 0 0 0 turn 7 hand 0;thin 0 0 0 0 turn 2 hand 0;' = 2", "force(25) ! 1", "force(0) ! 1", "force(24) ! 8",
            "load '" + thin + thicks(23) + "' = 24", "force(25) ! 1", "force(24) ! 3");
        run("promise 43: on an empty TABLE", "force(1) = 0", "force(24) = 0", "many(13) = 0", "force(0) ! 1", "force(25) ! 1");
    }

    /** Ahead of each RHOMB the first of: 8 DEAD; done; 3 full; 8 it can't be laid. */
    private static void forceFirsts() {
        String thin = "thin 0 0 0 0 turn 5 hand 0;";
        String dead = "thick 1 0 0 0 turn 2 hand 0;thick 0 0 0 0 turn 3 hand 0;";
        String stuck = "thin 0 0 0 0 turn 4 hand 0;thin 0 0 0 0 turn 2 hand 0;";
        run("promise 43: 8 ahead of done", "load '" + dead + "' = 2", "holes(1) = 0", "holes(2) = 1", "force(1) ! 8", "many(13) = 2");
        run("promise 43: 8 ahead of what is FORCED", "load '" + thin + "thick 10 0 0 0 turn 2 hand 0;thick 9 0 0 0 turn 3 hand 0;" + "' = 3", "holes(1) = 1",
            "holes(2) = 1", "holes(3) = 1", "force(24) ! 8", "many(13) = 3");
        run("promise 43: 8 ahead of 3", "load '" + dead + thicks(22) + "' = 24", "force(1) ! 8", "load '" + dead + "thin 9 0 0 0 turn 0 hand 0;" + thicks(21) + "' = 24", "holes(1) = 1",
            "force(1) ! 8", "many(13) = 24");
        run("promise 43: done ahead of 3", "load '" + FULL + "' = 24", "force(1) = 0", "force(24) = 0", "many(13) = 24");
        run("promise 43: done as the TABLE gets full", "load '" + thin + thicks(21) + "' = 22", "force(24) = 2", "many(13) = 24", "force(24) = 0");
        run("promise 43: n laid as the TABLE gets full", "load '" + thin + thicks(22) + "' = 23", "force(1) = 1", "many(13) = 24", "force(1) ! 3", "many(13) = 24");
        run("promise 43: 3, what was laid stays", "load '" + thin + thicks(22) + "' = 23", "force(24) ! 3", "many(13) = 24", "spot(0, 0, 0) = 0", "spot(22, 0, 0) = 83",
            "rhomb(23, 0) = 1", "take(5) = 23", "force(24) = 1", "many(13) = 24");
        run("promise 43: 3 ahead of 8, that one can't be laid", "load '" + stuck + thicks(22) + "' = 24", "holes(2) = 0", "holes(1) = 2", "force(1) ! 3",
            "load '" + stuck + thicks(21) + "' = 23", "force(1) ! 8", "many(13) = 23");
        run("promise 43: 8, what was laid stays", "load 'thin 0 0 0 0 turn 6 hand 0;thin 0 0 0 0 turn 8 hand 0;' = 2", "force(24) ! 8", "many(13) = 4", "rhomb(0, 1) = 6",
            "rhomb(1, 1) = 8", "force(24) ! 8", "many(13) = 4");
        run("promise 43: behind the n-th nothing is looked at", "load 'thick 0 0 0 0 turn 2 hand 0;thin 0 0 0 0 turn 6 hand 0;' = 2", "force(1) = 1", "holes(2) = 1", "force(1) ! 8",
            "load 'thick 0 0 0 0 turn 2 hand 0;thin 0 0 0 0 turn 6 hand 0;' = 2", "force(2) ! 8", "many(13) = 3");
        // B of it is FORCED; what is laid there would have its A farther than a RHOMB may.
        run("promise 43: 8: its A would lie beyond 999", "lay(0, 999, 0, 0, 0, 0, 0) = 0", "holes(1) = 1", "holes(2) = 0", "force(1) ! 8", "many(13) = 1", "clear() = 1",
            "lay(0, 998, 0, 0, 0, 0, 0) = 0", "force(1) = 1", "many(13) = 2");
    }

    private static void forces(String there, int gaps, String laid) {
        run("promise 43: the GAP that begins at the least direction: " + there, "load '" + there + "' = " + there.split(";").length, "holes(3) = 0", "gaps(0, 0) = " + gaps,
            "force(1) = 1", "printed '" + there + laid + "'");
    }

    /** POINT 0 is FORCED and has several GAPS; those that begin late go on past the direction 9. */
    private static void forceWraps() {
        forces("thick 0 0 0 0 turn 7 hand 0;thin 0 0 0 0 turn 1 hand 0;", 2, "thin 0 0 0 0 turn 1 hand 1;");
        forces("thick 0 0 0 0 turn 0 hand 1;thin 0 0 0 0 turn 6 hand 1;", 2, "thick 0 0 0 0 turn 0 hand 0;");
        forces("thin 0 0 0 0 turn 1 hand 1;thick 0 0 0 0 turn 5 hand 0;", 2, "thin 0 0 0 0 turn 1 hand 0;");
        forces("thick 0 0 0 0 turn 6 hand 0;thin 0 0 0 0 turn 2 hand 1;", 2, "thin 0 0 0 0 turn 2 hand 0;");
        forces("thin 0 0 0 0 turn 8 hand 0;thick 0 0 0 0 turn 4 hand 1;", 2, "thick 0 0 0 0 turn 4 hand 0;");
        forces("thick 0 0 0 0 turn 1 hand 0;thin 0 0 0 0 turn 7 hand 1;", 2, "thin 0 0 0 0 turn 5 hand 1;");
        forces("thick 0 0 0 0 turn 3 hand 0;thin 0 0 0 0 turn 9 hand 1;", 2, "thin 0 0 0 0 turn 7 hand 1;");
        forces("thin 0 0 0 0 turn 8 hand 0;thick 1 0 0 0 turn 8 hand 0;thick 0 0 0 0 turn 4 hand 0;", 2, "thin 0 0 0 0 turn 8 hand 1;");
        forces("thick 0 - 1 0 0 turn 7 hand 1;thin 0 0 0 0 turn 0 hand 1;thick 0 0 0 0 turn 6 hand 1;", 2, "thin 0 - 1 0 0 turn 3 hand 0;");
        forces("thick 0 0 0 0 turn 7 hand 0;thin 0 0 0 0 turn 1 hand 0;thin 0 0 0 0 turn 3 hand 0;", 3, "thin 0 0 0 0 turn 1 hand 1;");
        forces("thick 0 0 0 0 turn 4 hand 0;thin 0 0 0 0 turn 8 hand 0;thin 0 0 0 0 turn 0 hand 0;", 3, "thick 0 0 0 0 turn 4 hand 1;");
        // All five GAPS are FORCED, one thin one each; filled they make ten.
        List<String> lines = new ArrayList<>();
        for (int n = 0; n < 5; n++) {
            lines.add("lay(0, 0, 0, 0, 0, " + 2 * n + ", 0) = " + n);
        }
        lines.addAll(Arrays.asList("holes(3) = 0", "gaps(0, 0) = 5", "force(1) = 1", "gaps(0, 0) = 4", "taken(0) = 6", "rhomb(5, 0) = 0", "rhomb(5, 1) = 2", "rhomb(5, 2) = 1"));
        run("promise 43: of five GAPS", lines);
    }

    private static void edges() {
        run("promise 44: none to four", "level(1) = 20", "borrow(1) = 0", "meeting(0) = 0", "borrow(3) = 1", "meeting(0) = 1", "meeting(1) = 1", "borrow(15) = 2", "meeting(0) = 2",
            "borrow(0) = 3", "meeting(0) = 3", "meeting(3) = 2", "borrow(16) = 4", "meeting(0) = 4", "meeting(5) ! 2", "meeting(-1) ! 2", "take(4) = 4", "meeting(0) = 3");
        run("promise 45: none, all", "open() = 0", "lay(1, 0, 0, 0, 0, 0, 0) = 0", "open() = 4", "lay(1, 0, 0, 0, 0, 0, 1) = 1", "open() = 6", "load '" + FULL + "' = 24",
            "open() = 96", "clear() = 24", "open() = 0");
        run("promise 51: none, all", "covered(0) = 0", "covered(1) = 0", "load '" + FULL + "' = 24", "covered(0) = 0", "covered(1) = 48", "take(0) = 23", "lay(0, 0, 0, 0, 0, 0, 0) = 23",
            "covered(0) = 2", "covered(1) = 46", "covered(2) ! 1", "covered(-1) ! 1");
    }
}

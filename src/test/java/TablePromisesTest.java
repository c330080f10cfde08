/** Promises 32 to 51: the table and its texts, each with ordinary inputs, edges and wrong inputs. */
public final class TablePromisesTest {
    private static final Check CHECK = new Check();
    // Far from one another, in as few bytes as it goes.
    private static final String FULL_TABLE = manyLines(24);

    private static void run(String name, String... lines) {
        Script.run(CHECK, name, lines);
    }

    private static String manyLines(int lines) {
        StringBuilder text = new StringBuilder();
        for (int n = 0; n < lines; n++) {
            text.append("thin").append(3 * n).append(" 0 0 0turn0hand0;");
        }
        return text.toString();
    }

    public static void main(String[] args) {
        lay();
        layBeside();
        borrow();
        takeAndClear();
        rhombs();
        points();
        gapsAndWays();
        holes();
        force();
        edges();
        feed();
        load();
        faults();
        print();
        covered();
        firstOfTwo();
        CHECK.end("TablePromisesTest");
    }

    private static void lay() {
        run("promise 32", "lay(0, 0, 0, 0, 0, 0, 0) = 0", "lay(0, 5, 0, 0, 0, 0, 1) = 1", "lay(2, 9, 0, 0, 0, 0, 0) ! 1",
            "lay(-1, 9, 0, 0, 0, 0, 0) ! 1", "lay(0, 1000, 0, 0, 0, 0, 0) ! 1", "lay(0, 0, -1000, 0, 0, 0, 0) ! 1",
            "lay(0, 0, 0, 1000, 0, 0, 0) ! 1", "lay(0, 0, 0, 0, -2147483648, 0, 0) ! 1", "lay(0, 9, 0, 0, 0, 10, 0) ! 1",
            "lay(0, 9, 0, 0, 0, -1, 0) ! 1", "lay(0, 9, 0, 0, 0, 0, 2) ! 1", "lay(0, 9, 0, 0, 0, 0, -1) ! 1", "many(13) = 2",
            "lay(1, 999, 999, 999, 999, 9, 1) = 2", "lay(1, -999, -999, -999, -999, 0, 0) = 3",
            "lay(1, 999, -999, 999, -999, 4, 1) = 4", "many(13) = 5", "lay(0, 0, 0, 0, 0, 0, 2) ! 1");
        run("promise 32, full", "load '" + FULL_TABLE + "' = 24", "lay(0, 99, 0, 0, 0, 0, 0) ! 3", "lay(0, 0, 0, 0, 0, 0, 0) ! 3",
            "lay(2, 0, 0, 0, 0, 0, 0) ! 1", "many(13) = 24", "take(5) = 23", "lay(0, 0, 0, 0, 0, 0, 0) ! 6",
            "lay(0, 99, 0, 0, 0, 0, 0) = 23");
        // The same rhomb told from its other A; one that crosses it; one that lies all round it is there none.
        run("promise 32, one on another", "lay(1, 0, 0, 0, 0, 0, 0) = 0", "lay(1, 0, 0, 0, 0, 0, 0) ! 6",
            "lay(1, 1, 0, 0, 1, 8, 1) ! 6", "lay(1, 1, 0, 0, 1, 5, 0) ! 6", "lay(0, 0, 0, 0, 0, 1, 0) ! 6",
            "lay(0, 0, 0, 0, 0, 2, 0) ! 6", "lay(0, 0, 0, 0, 0, 9, 1) = 1", "many(13) = 2");
        // GOLD less 1 lies on the edge from A to B, within it.
        run("promise 32, a corner within an edge", "lay(1, 0, 0, 0, 0, 0, 0) = 0", "lay(1, 0, 0, 1, -1, 0, 1) ! 6",
            "lay(0, 0, 0, 1, -1, 8, 0) ! 6", "lay(0, 0, 0, 1, -1, 5, 0) ! 6", "lay(1, 1, 0, 0, 0, 0, 1) = 1", "clear() = 2",
            "lay(1, 0, 0, 1, -1, 0, 1) = 0", "lay(1, 0, 0, 0, 0, 0, 0) ! 6");
    }

    private static void layBeside() {
        // Thick, from A to B: MARK 0, the arrow to A. A thin one there has it from A to B.
        run("promise 32, marks", "lay(1, 0, 0, 0, 0, 0, 0) = 0", "lay(0, 0, 0, 0, 0, 0, 1) ! 7", "lay(0, 1, 0, 0, 0, 5, 0) = 1",
            "take(1) = 1", "lay(1, 1, 0, 0, 0, 5, 0) ! 7", "lay(1, 0, 0, 0, 0, 0, 1) = 1", "take(1) = 1",
            "lay(0, 0, 0, 0, 0, 9, 0) ! 7", "lay(0, 1, 0, 0, 0, 6, 1) ! 7", "lay(0, 0, 0, 0, 0, 3, 0) ! 7",
            "lay(0, 0, 0, 0, 0, 4, 1) = 1", "many(13) = 2");
        // 6 by one rhomb goes ahead of 7 by another one, whichever was laid first.
        run("promise 32, 6 ahead of 7", "lay(1, 0, 0, 0, 0, 0, 0) = 0", "lay(0, -1, 0, 0, 0, 9, 0) = 1", "lay(1, 1, 0, 0, 0, 5, 0) ! 6");
        run("promise 32, numbers that are nearly the same", "lay(1, -610, 0, 987, -987, 0, 0) = 0", "lay(1, 0, 0, 0, 0, 0, 1) ! 6",
            "lay(1, 0, 0, 0, 0, 0, 0) ! 6", "lay(0, 0, 0, 0, 0, 5, 0) ! 6", "lay(0, 2, 0, 0, 0, 0, 0) = 1");
    }

    /** Where two STATUSES hold the lesser one is told, in whatever order a promise lists them. */
    private static void firstOfTwo() {
        run("promise 2, the first that holds, a full TABLE", "load '" + FULL_TABLE + "' = 24", "borrow(10) ! 2", "borrow(0) ! 3",
            "start(1) = 1", "borrow(0) ! 3", "borrow(1) ! 2", "start(2) = 1", "borrow(0) ! 3", "start(3) = 2", "borrow(0) ! 3",
            "borrow(-1) ! 2", "lay(0, 0, 0, 0, 0, 0, 0) ! 3", "lay(0, 1, 0, 0, 0, 5, 1) ! 3", "lay(0, 0, 0, 0, 0, 10, 0) ! 1",
            "take(0) = 23", "borrow(0) = 23", "borrow(0) ! 3", "start(1) = 1", "take(23) = 23", "borrow(0) ! 5");
        run("promise 2, the first that holds, a full ROW", "row(0) = 0", "pick(0) = 1", "pick(0) = 2", "pick(0) = 3", "pick(0) = 4",
            "pick(0) = 5", "pick(0) = 6", "pick(0) = 7", "pick(0) = 8", "pick(0) = 9", "pick(0) = 10", "pick(0) = 11", "pick(0) = 12",
            "pick(10) ! 2", "pick(0) ! 3", "start(2) = 1", "pick(0) ! 3", "pick(1) ! 2", "putBy() = 12", "row(0) = 12", "pick(0) ! 6");
        run("promise 2, the first that holds, else", "pick(10) ! 2", "pick(0) ! 5", "ribbon(10, 2, 0) ! 1", "ribbon(10, 0, 0) ! 2",
            "ribbon(0, 0, 0) ! 5", "ribbon(0, 0, 2) ! 1", "figure(10, 3) ! 1", "figure(10, 0) ! 2", "figure(0, 1) ! 5",
            "figure(0, 3) ! 1", "picked(2, 0, 0) ! 1", "picked(0, 0, 4) ! 1", "picked(0, 0, 0) ! 5", "comes(4, 1) ! 1",
            "comes(0, -1) ! 1", "comes(0, 1) ! 5", "holes(5) ! 1", "holes(3) ! 5", "gaps(0, 2) ! 1", "gaps(0, 0) ! 2");
    }

    private static void borrow() {
        run("promise 33", "borrow(0) ! 5", "borrow(10) ! 2", "borrow(-1) ! 2", "level(1) = 20", "borrow(2) = 0", "spot(0, 0, 0) = 1",
            "spot(0, 0, 2) = 1", "spot(0, 0, 3) = -1", "rhomb(0, 0) = 0", "rhomb(0, 1) = 4", "rhomb(0, 2) = 1", "borrow(0) ! 6",
            "borrow(1) = 1", "rhomb(1, 0) = 1", "borrow(19) ! 6", "borrow(20) ! 2", "many(13) = 2", "borrow(3) = 2",
            "borrow(7) = 3", "borrow(11) = 4", "borrow(15) = 5", "holes(0) = 2", "start(0) = 10", "many(13) = 6");
        run("promise 33, all of a wheel", "level(1) = 20", "borrow(0) = 0", "borrow(1) = 1", "borrow(3) = 2", "borrow(4) = 3",
            "borrow(7) = 4", "borrow(8) = 5", "borrow(11) = 6", "borrow(12) = 7", "borrow(15) = 8", "borrow(16) = 9",
            "many(14) = 16", "holes(0) = 6", "open() = 10", "covered(0) = 10", "covered(1) = 10", "force(24) = 0");
        run("promise 33, full", "load '" + FULL_TABLE + "' = 24", "level(1) = 20", "borrow(0) ! 3", "borrow(20) ! 2", "level(2) = 50",
            "start(0) = 10", "borrow(0) ! 3", "many(13) = 24", "take(23) = 23", "borrow(0) ! 5", "many(13) = 23");
        run("promise 33, an arrow", "level(1) = 20", "lay(1, 1, 0, 1, -1, 4, 0) = 0", "borrow(0) ! 7", "take(0) = 0", "borrow(0) = 0");
    }

    private static void takeAndClear() {
        run("promise 34", "take(0) ! 2", "lay(0, 0, 0, 0, 0, 0, 0) = 0", "lay(1, 5, 0, 0, 0, 3, 1) = 1", "lay(0, 9, 0, 0, 0, 7, 0) = 2",
            "take(3) ! 2", "take(-1) ! 2", "take(0) = 2", "rhomb(0, 0) = 1", "rhomb(0, 1) = 3", "rhomb(0, 2) = 1",
            "spot(1, 0, 0) = 9", "pointOf(1, 0) = 4", "many(14) = 8", "take(1) = 1", "take(1) ! 2", "take(0) = 0", "many(14) = 0");
        run("promise 35", "clear() = 0", "lay(0, 0, 0, 0, 0, 0, 0) = 0", "lay(1, 5, 0, 0, 0, 3, 1) = 1", "clear() = 2", "clear() = 0",
            "many(13) = 0", "many(14) = 0", "rhomb(0, 0) ! 2", "lay(0, 0, 0, 0, 0, 0, 0) = 0");
    }

    private static void rhombs() {
        run("promise 36", "rhomb(0, 0) ! 2", "rhomb(0, 3) ! 1", "lay(1, 0, 0, 0, 0, 7, 1) = 0", "lay(0, 9, 0, 0, 0, 2, 0) = 1",
            "rhomb(0, 0) = 1", "rhomb(0, 1) = 7", "rhomb(0, 2) = 1", "rhomb(1, 0) = 0", "rhomb(1, 1) = 2", "rhomb(1, 2) = 0",
            "rhomb(0, 3) ! 1", "rhomb(0, -1) ! 1", "rhomb(2, 0) ! 2", "rhomb(-1, 0) ! 2");
        // HAND 1, thin, d 0: C is A and STEP 9.
        run("promise 37", "spot(0, 0, 0) ! 2", "lay(0, 2, 3, 4, 5, 0, 1) = 0", "spot(0, 0, 0) = 2", "spot(0, 0, 3) = 5", "spot(0, 1, 0) = 3",
            "spot(0, 1, 1) = 3", "spot(0, 3, 0) = 3", "spot(0, 3, 1) = 2", "spot(0, 3, 2) = 5", "spot(0, 3, 3) = 4",
            "spot(0, 2, 0) = 4", "spot(0, 2, 1) = 2", "spot(0, 2, 2) = 5", "spot(0, 2, 3) = 4", "spot(0, 4, 0) ! 1",
            "spot(0, -1, 0) ! 1", "spot(0, 0, 4) ! 1", "spot(0, 0, -1) ! 1", "spot(1, 0, 0) ! 2", "spot(-1, 0, 0) ! 2",
            "spot(1, 4, 0) ! 1", "lay(1, -1, 0, 0, 0, 3, 0) = 1", "spot(1, 0, 0) = -1", "spot(1, 3, 1) = -1");
    }

    private static void points() {
        run("promise 38", "pointOf(0, 0) ! 2", "lay(1, 0, 0, 0, 0, 0, 0) = 0", "lay(1, 0, 0, 0, 0, 0, 1) = 1", "pointOf(0, 0) = 0",
            "pointOf(0, 1) = 1", "pointOf(0, 2) = 2", "pointOf(0, 3) = 3", "pointOf(1, 0) = 0", "pointOf(1, 1) = 1",
            "pointOf(1, 2) = 4", "pointOf(1, 3) = 5", "many(14) = 6", "pointOf(0, 4) ! 1", "pointOf(0, -1) ! 1",
            "pointOf(2, 0) ! 2", "pointOf(-1, 0) ! 2", "pointOf(2, 4) ! 1", "take(0) = 1", "pointOf(0, 3) = 3", "many(14) = 4");
        run("promise 39", "taken(0) ! 2", "lay(0, 0, 0, 0, 0, 0, 0) = 0", "taken(0) = 1", "taken(1) = 4", "taken(2) = 1", "taken(3) = 4",
            "taken(4) ! 2", "taken(-1) ! 2", "lay(1, 1, 0, 0, 0, 5, 1) ! 6", "lay(0, 0, 0, 0, 0, 0, 1) = 1", "taken(0) = 2", "taken(1) = 8", "taken(4) = 1", "taken(5) = 4");
    }

    private static void gapsAndWays() {
        run("promise 40", "gaps(0, 0) ! 2", "gaps(0, 2) ! 1", "lay(0, 0, 0, 0, 0, 0, 0) = 0", "gaps(0, 0) = 1", "gaps(0, 1) = 9",
            "gaps(1, 1) = 6", "gaps(0, 2) ! 1", "gaps(0, -1) ! 1", "gaps(4, 0) ! 2", "gaps(-1, 0) ! 2", "gaps(4, 2) ! 1",
            "lay(0, 0, 0, 0, 0, 4, 0) = 1", "gaps(0, 0) = 2", "gaps(0, 1) = 5", "lay(0, 0, 0, 0, 0, 7, 0) = 2", "gaps(0, 0) = 3",
            "gaps(0, 1) = 3", "level(1) = 20", "clear() = 3", "borrow(1) = 0", "borrow(3) = 1", "borrow(7) = 2", "borrow(11) = 3",
            "borrow(15) = 4", "taken(1) = 2", "holes(0) = 1");
        run("promise 40, all taken", "level(1) = 20", "borrow(1) = 0", "borrow(3) = 1", "borrow(7) = 2", "borrow(11) = 3",
            "borrow(15) = 4", "pointOf(0, 3) = 3", "taken(3) = 10", "gaps(3, 0) = 0", "gaps(3, 1) = 0", "ways(3) = 1");
        run("promise 41", "ways(0) ! 2", "lay(1, 0, 0, 0, 0, 0, 0) = 0", "ways(0) = 3", "ways(1) = 17", "ways(2) = 3", "ways(3) = 5",
            "ways(4) ! 2", "ways(-1) ! 2", "clear() = 1", "lay(0, 0, 0, 0, 0, 0, 0) = 0", "ways(0) = 19", "ways(1) = 1",
            "ways(2) = 19", "ways(3) = 3");
        // Two gaps: their ways times one another.
        run("promise 41, two gaps", "lay(1, 0, 0, 0, 0, 0, 0) = 0", "lay(1, 0, 0, 0, 0, 5, 0) = 1", "gaps(0, 0) = 2", "gaps(0, 1) = 2",
            "ways(0) = 0");
    }

    private static void holes() {
        run("promise 42", "holes(0) = 0", "holes(1) = 0", "holes(2) = 0", "holes(3) ! 5", "holes(4) ! 5", "holes(5) ! 1", "holes(-1) ! 1",
            "lay(0, 0, 0, 0, 0, 5, 0) = 0", "holes(0) = 0", "holes(1) = 1", "holes(2) = 0", "holes(3) = 1", "holes(4) ! 5",
            "clear() = 1", "lay(1, 1, 0, 0, 0, 2, 0) = 0", "lay(1, 0, 0, 0, 0, 3, 0) = 1", "holes(2) = 1", "holes(4) = 3",
            "holes(1) = 0", "holes(3) ! 5");
    }

    private static void force() {
        run("promise 43", "force(1) = 0", "force(0) ! 1", "force(25) ! 1", "force(-1) ! 1", "lay(0, 0, 0, 0, 0, 5, 0) = 0",
            "force(1) = 1", "many(13) = 2", "force(24) = 1", "many(13) = 3", "force(24) = 0", "holes(1) = 0");
        run("promise 43, no more than n", "lay(0, 0, 0, 0, 0, 5, 0) = 0", "force(2) = 2", "force(2) = 0");
        run("promise 43, full", "load 'thin 0 0 0 0 turn 9 hand 0;thin 0 0 0 0 turn 3 hand 0;thin 0 0 0 0 turn 5 hand 1;' = 3",
            "force(21) = 21", "many(13) = 24", "force(1) ! 3", "many(13) = 24");
        run("promise 43, what was laid stays", "load 'thin 0 0 0 0 turn 9 hand 0;thin 0 0 0 0 turn 3 hand 0;thin 0 0 0 0 turn 5 hand 1;' = 3",
            "force(24) ! 3", "many(13) = 24");
        run("promise 43, can't be laid", "load 'thin 0 0 0 0 turn 4 hand 0;thin 0 0 0 0 turn 2 hand 0;' = 2", "holes(2) = 0",
            "holes(1) = 2", "force(24) ! 8", "many(13) = 2", "load 'thin 0 0 0 0 turn 6 hand 0;thin 0 0 0 0 turn 8 hand 0;' = 2",
            "force(2) = 2", "holes(2) = 0", "force(24) ! 8", "many(13) = 4");
        run("promise 43, dead", "load 'thin 0 0 0 0 turn 2 hand 1;thin 0 1 0 0 turn 8 hand 0;' = 2", "holes(2) = 1", "force(24) ! 8",
            "many(13) = 2", "load 'thick 0 0 0 0 turn 2 hand 0;thin 0 0 0 0 turn 6 hand 0;' = 2", "holes(2) = 0", "force(24) ! 8",
            "many(13) = 3", "holes(2) = 1");
        run("promise 43, the last may be dead", "load 'thick 0 0 0 0 turn 2 hand 0;thin 0 0 0 0 turn 6 hand 0;' = 2", "force(1) = 1",
            "holes(2) = 1", "force(1) ! 8");
        run("promise 43, the first is dead", "load 'thin 0 0 0 0 turn 7 hand 0;thin 0 0 0 0 turn 2 hand 0;' = 2", "holes(4) = 0", "force(1) ! 8");
        forces("thin 0 0 0 0 turn 0 hand 1;thick 0 0 0 0 turn 6 hand 0;thick 1 0 0 0 turn 5 hand 1;", "thin 0 0 0 0 turn 2 hand 0;");
        forces("thick 0 0 0 0 turn 8 hand 1;thin 0 0 0 0 turn 4 hand 1;thin 0 0 0 0 turn 2 hand 1;", "thin 0 0 0 0 turn 2 hand 0;");
        forces("thin 0 0 0 0 turn 7 hand 0;thick 0 0 0 0 turn 3 hand 0;", "thin 0 0 0 0 turn 7 hand 1;");
        forces("thick 0 0 0 0 turn 3 hand 1;thick 1 0 0 1 turn 1 hand 1;", "thin 1 1 0 1 turn 6 hand 1;");
        // At B of the thin one, six tenths from the direction 9 on, with an arrow of MARK 0 into it on both sides.
        forces("thin 0 0 0 0 turn 0 hand 1;", "thick 1 0 0 0 turn 9 hand 0;");
        forces("thin 0 0 0 0 turn 0 hand 1;thick 1 0 0 0 turn 9 hand 0;", "thick 1 0 0 0 turn 5 hand 1;");
        forces("thick 0 0 0 0 turn 4 hand 0;thin 0 0 0 0 turn 8 hand 0;thin 0 0 0 0 turn 0 hand 0;", "thick 0 0 0 0 turn 4 hand 1;");
        forces("thick 0 0 0 0 turn 7 hand 0;thin 0 0 0 0 turn 1 hand 1;thick 1 1 0 0 turn 9 hand 1;", "thick 1 0 - 1 0 turn 9 hand 0;");
        // A thin one alone: B is forced, and the A of what is laid there would be farther than a rhomb may lie.
        run("promise 43, too far", "lay(0, 999, 0, 0, 0, 0, 0) = 0", "holes(3) = 1", "force(1) ! 8", "many(13) = 1",
            "holes(2) = 0", "clear() = 1", "lay(0, 990, 0, 0, 0, 0, 0) = 0", "force(1) = 1", "many(13) = 2");
        for (int d = 0; d < 9; d += d == 3 ? 2 : 1) {
            String numbers = "0, 0, 0, 0".substring(0, d % 5 * 3) + (d < 5 ? 999 : -999) + "0, 0, 0, 0".substring(d % 5 * 3 + 1);
            run("promise 43, too far by " + numbers, "lay(0, " + numbers + ", " + d + ", 0) = 0", "force(1) ! 8", "many(13) = 1");
        }
    }

    /** What force(1) lays behind the rhombs of a text. */
    private static void forces(String there, String laid) {
        run("promise 43 on " + there, "load '" + there + "' = " + (there.split(";").length), "force(1) = 1", "printed '" + there + laid + "'");
    }

    private static void edges() {
        run("promise 44", "meeting(0) ! 2", "lay(1, 0, 0, 0, 0, 0, 0) = 0", "meeting(0) = 0", "lay(1, 0, 0, 0, 0, 0, 1) = 1", "meeting(0) = 1",
            "meeting(1) = 1", "meeting(2) ! 2", "meeting(-1) ! 2", "lay(1, 5, 0, 0, 0, 0, 1) = 2", "meeting(2) = 0", "level(1) = 20",
            "clear() = 3", "borrow(1) = 0", "borrow(3) = 1", "borrow(7) = 2", "borrow(11) = 3", "borrow(15) = 4", "meeting(0) = 2",
            "borrow(0) = 5", "meeting(5) = 2");
        run("promise 45", "open() = 0", "lay(1, 0, 0, 0, 0, 0, 0) = 0", "open() = 4", "lay(1, 0, 0, 0, 0, 0, 1) = 1", "open() = 6",
            "lay(1, 5, 0, 0, 0, 0, 1) = 2", "open() = 10", "take(0) = 2", "open() = 8");
    }

    private static void feed() {
        String[] lines = new String[50];
        for (int n = 0; n < 45; n++) {
            lines[n] = "feed(1, 2, 3, 4, 5) ~ " + (20 * n + 20);
        }
        lines[45] = "feed(1, 2, 3, 4, 5) ~ -1";
        lines[46] = "load(901) ! 1";
        lines[47] = "feed(1, 2, 3, 4, 5) ~ -1";
        lines[48] = "load(900) ! 9";
        lines[49] = "feed(1, 2, 3, 4, 5) ~ 20";
        run("promise 46", lines);
        // The highest byte first: t h i n
        run("promise 46, bytes", "feed(1952999790, 540024880, 540024880, 544503154, 1847603232) ~ 20",
            "feed(1751215716, 540031776, 0, 0, 0) ~ 40", "load(27) = 1", "feed(-1, -1, -1, -1, -1) ~ 20", "load(1) ! 9",
            "fault(0) ~ 1", "fault(1) ~ 0");
    }

    private static void load() {
        run("promise 47", "load(0) = 0", "load(1) ! 1", "load(-1) ! 1", "lay(1, 0, 0, 0, 0, 0, 0) = 0", "load(0) = 0", "many(13) = 0",
            "load 'thin 0 0 0 0 turn 0 hand 0;' = 1", "load(1) ! 1", "many(13) = 1", "load 'thin' ! 9", "many(13) = 1", "load(1) ! 1",
            "load ' \n ' = 0", "many(13) = 0", "load 'thick - 1 -2-0 3turn9hand1;\n\nthin 99 0 0 0turn 05 hand001 ;' = 2",
            "spot(0, 0, 0) = -1", "spot(0, 0, 1) = -2", "spot(0, 0, 2) = 0", "spot(0, 0, 3) = 3", "rhomb(0, 0) = 1",
            "rhomb(0, 1) = 9", "rhomb(0, 2) = 1", "rhomb(1, 1) = 5", "rhomb(1, 2) = 1", "load 'thick 999 - 999 999 000 turn 0 hand 0;' = 1",
            "spot(0, 0, 1) = -999", "lay(0, 0, 0, 0, 0, 0, 0) = 1", "load(21) ! 1");
        run("promise 47, the tape stays by 1", "feed(0, 0, 0, 0, 0) ~ 20", "load(21) ! 1", "feed(0, 0, 0, 0, 0) ~ 40", "load(-1) ! 1",
            "feed(0, 0, 0, 0, 0) ~ 60", "load(60) ! 9", "feed(0, 0, 0, 0, 0) ~ 20", "load(0) = 0", "feed(0, 0, 0, 0, 0) ~ 20");
        run("promise 47, the table stays by 9", "lay(1, 0, 0, 0, 0, 0, 0) = 0", "load 'thin 0 0 0 0 turn 0 hand 0;thin 0 0 0 0 turn 0 hand 0;' ! 9",
            "many(13) = 1", "rhomb(0, 0) = 1", "load 'thin 0 0 0 0 turn 0 hand 0;x' ! 9", "rhomb(0, 0) = 1");
    }

    private static void faulty(String text, int kind, int place) {
        run("promise 48: " + text, "load '" + text + "' ! 9", "fault(0) ~ " + kind, "fault(1) ~ " + place, "fault(2) ~ -1",
            "fault(-1) ~ -1", "many(13) = 0");
    }

    private static void faults() {
        run("promise 48", "fault(0) ~ -1", "fault(1) ~ -1", "load(0) = 0", "fault(0) ~ 0", "fault(1) ~ -1", "load 'x' ! 9", "fault(0) ~ 2",
            "fault(1) ~ 0", "load(9) ! 1", "fault(0) ~ 2", "fault(1) ~ 0", "fault(2) ~ -1", "fault(-1) ~ -1", "many(0) = 0",
            "fault(0) ~ 2", "load 'thin 0 0 0 0 turn 0 hand 0;' = 1", "fault(0) ~ 0", "fault(1) ~ -1");
        String line = "thin 0 0 0 0 turn 0 hand 0;";
        faulty("A", 1, 0);
        faulty(" \n+", 1, 2);
        faulty("thin 0 0 0 0\tturn 0 hand 0;", 1, 12);
        faulty("thin 1000 0 0 0 turn 0 hand 0;", 1, 5);
        faulty("thin 0 0 0 0 turn 0000 hand 0;", 1, 18);
        faulty("1000", 1, 0);
        faulty("100", 2, 0);
        faulty("thinn 0 0 0 0 turn 0 hand 0;", 2, 0);
        faulty("turn", 2, 0);
        // One letter is another one, a sign stands for the other sign, a byte next to the letters or digits.
        faulty("shin 0 0 0 0 turn 0 hand 0;", 2, 0);
        faulty("thinz 0 0 0 0 turn 0 hand 0;", 2, 0);
        faulty("athin 0 0 0 0 turn 0 hand 0;", 2, 0);
        faulty("chick 0 0 0 0 turn 0 hand 0;", 2, 0);
        faulty("trick 0 0 0 0 turn 0 hand 0;", 2, 0);
        faulty("thin 0 0 0 0 burn 0 hand 0;", 2, 13);
        faulty("thin 0 0 0 0 turn 0 land 0;", 2, 20);
        faulty("thin 0 0 0 0 turn 0 hank 0;", 2, 20);
        faulty("thin ; 5 0 0 0 turn 0 hand 0;", 2, 5);
        faulty("thin 0 0 0 0 turn 0 hand 0-", 2, 26);
        faulty("thin 0 0 0 0 turn 0 hand 0-;", 2, 26);
        faulty("thin` 0 0 0 0 turn 0 hand 0;", 1, 4);
        faulty("thin{ 0 0 0 0 turn 0 hand 0;", 1, 4);
        faulty("thin 0/ 0 0 0 turn 0 hand 0;", 1, 6);
        faulty("thin 0: 0 0 0 turn 0 hand 0;", 1, 6);
        faulty(";", 2, 0);
        faulty("-", 2, 0);
        faulty("thin", 2, 4);
        faulty("thin  ", 2, 6);
        faulty("thin 0 0 0 - turn", 2, 13);
        faulty("thin - - 1 0 0 0 turn 0 hand 0;", 2, 7);
        faulty("thin 0 0 0 0 0 turn 0 hand 0;", 2, 13);
        faulty("thin 0 0 0 turn 0 hand 0;", 2, 11);
        faulty("thin 0 0 0 0 hand 0 turn 0;", 2, 13);
        faulty("thin 0 0 0 0 turn - 1 hand 0;", 2, 18);
        faulty("thin 0 0 0 0 turn 0 hand 0", 2, 26);
        faulty("thin 0 0 0 0 turn 0 hand 0 thin", 2, 27);
        faulty("thin 0 0 0 0 turn 10 hand 0;", 3, 18);
        faulty("thin 0 0 0 0 turn 010 hand 5;", 3, 18);
        faulty("thin 0 0 0 0 turn 9 hand 2;", 3, 25);
        faulty("thin 0 0 0 0 turn 10", 3, 18);
        faulty(line + " " + line, 6, 28);
        faulty(line + "thin 0 0 0 0 turn 0 hand 0", 2, 53);
        faulty(line + "thin 0 0 0 0 turn 0 hand 2;", 3, 52);
        faulty(line + "thin 0 0 0 0 turn 0 hand 0 x", 2, 54);
        faulty(line + " " + line + "A", 6, 28);
        faulty("thick 0 0 0 0 turn 0 hand 0;\nthin 0 0 0 0 turn 0 hand 1;", 7, 29);
        faulty(manyLines(25), 4, FULL_TABLE.length());
        faulty(FULL_TABLE + "thin A", 4, FULL_TABLE.length());
        faulty(FULL_TABLE + " thick", 4, FULL_TABLE.length() + 1);
        faulty(FULL_TABLE + "turn", 2, FULL_TABLE.length());
        faulty(FULL_TABLE + "A", 1, FULL_TABLE.length());
        run("promise 48, 24 of them", "load '" + FULL_TABLE + "' = 24", "fault(0) ~ 0", "load '" + FULL_TABLE + " \n' = 24");
    }

    private static void print() {
        run("promise 49", "printed ''", "lay(1, 0, 0, 0, 0, 0, 0) = 0", "printed 'thick 0 0 0 0 turn 0 hand 0;'",
            "lay(0, -1, 20, -300, 999, 9, 1) = 1",
            "printed 'thick 0 0 0 0 turn 0 hand 0;thin - 1 20 - 300 999 turn 9 hand 1;'", "take(0) = 1",
            "printed 'thin - 1 20 - 300 999 turn 9 hand 1;'",
            "clear() = 1", "lay(0, 100, 99, -100, -99, 5, 0) = 0", "lay(0, 10, 9, -10, -9, 5, 0) = 1",
            "printed 'thin 100 99 - 100 - 99 turn 5 hand 0;thin 10 9 - 10 - 9 turn 5 hand 0;'");
        String[] lines = new String[30];
        for (int n = 0; n < 24; n++) {
            lines[n] = "lay(1, " + (-999 + 3 * n) + ", -999, -999, -999, 9, 1) = " + n;
        }
        lines[24] = "print() = 1056";
        lines[25] = "out(1055) = 59";
        lines[26] = "out(1056) ! 5";
        lines[27] = "out(1054) = 49";
        lines[28] = "out(1012) = 116";
        lines[29] = "clear() = 24";
        run("promise 49, the longest", lines);
        run("promise 50", "out(0) ! 5", "out(-1) ! 1", "lay(1, 0, 0, 0, 0, 0, 0) = 0", "out(0) ! 5", "print() = 28", "out(0) = 116",
            "out(5) = 32", "out(27) = 59", "out(28) ! 5", "out(-1) ! 1", "out(2147483647) ! 5", "clear() = 1", "out(0) = 116",
            "print() = 0", "out(0) ! 5");
    }

    private static void covered() {
        run("promise 51", "covered(0) = 0", "covered(1) = 0", "covered(2) ! 1", "covered(-1) ! 1", "lay(1, 0, 0, 0, 0, 0, 0) = 0",
            "covered(0) = 0", "covered(1) = 2", "lay(0, 9, 0, 0, 0, 0, 0) = 1", "covered(0) = 2", "lay(0, 5, 0, 0, 0, 0, 0) = 2",
            "covered(0) = 4", "covered(1) = 2", "take(0) = 2", "covered(1) = 0");
    }
}

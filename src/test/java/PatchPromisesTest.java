/** Promises 1 to 31: the patch and its figures, each with ordinary inputs, edges and wrong inputs. */
public final class PatchPromisesTest {
    private static final Check CHECK = new Check();

    private static void run(String name, String... lines) {
        Script.run(CHECK, name, lines);
    }

    public static void main(String[] args) {
        newObjectAndStatus();
        startAndLevel();
        many();
        halves();
        corners();
        addresses();
        locate();
        growth();
        distances();
        drawn();
        rows();
        common();
        walks();
        ribbons();
        likeness();
        sides();
        figures();
        comes();
        CHECK.end("PatchPromisesTest");
    }

    private static void newObjectAndStatus() {
        run("promise 1", "status() ~ 0", "many(0) = 0", "many(1) = 0", "many(2) = 10", "many(13) = 0", "many(14) = 0",
            "clear() = 0", "open() = 0", "print() = 0", "out(0) ! 5", "fault(0) ~ -1", "fault(1) ~ -1", "putBy() ! 5",
            "picked(1, 0, 0) ! 5");
        run("promise 2", "many(15) ! 1", "status() ~ 1", "fault(0) ~ -1", "feed(0, 0, 0, 0, 0) ~ 20", "status() ~ 1",
            "half(10, 0) ! 2", "status() ~ 2", "pick(0) ! 5", "fault(7) ~ -1", "status() ~ 5", "many(0) = 0", "status() ~ 0",
            "load(1) ! 9", "fault(0) ~ 1", "status() ~ 9", "start(1) = 1", "status() ~ 0");
    }

    private static void startAndLevel() {
        run("promise 3", "start(1) = 1", "many(0) = 1", "start(2) = 1", "many(4) = 1", "start(3) = 2", "many(0) = 3",
            "level(2) = 16", "start(3) = 2", "many(1) = 0", "level(2) = 16", "start(4) ! 1", "start(-1) ! 1",
            "start(-2147483648) ! 1", "many(0) = 3", "many(1) = 2", "many(2) = 16", "start(0) = 10", "many(1) = 0");
        run("promise 3, what stays", "level(1) = 20", "row(1) = 0", "pick(1) = 1", "borrow(0) = 0", "start(2) = 1",
            "many(13) = 1", "picked(0, 0, 0) = 0", "row(0) = 1");
        run("promise 4", "level(0) = 10", "level(1) = 20", "level(2) = 50", "level(3) = 130", "level(4) = 340",
            "level(5) = 890", "level(6) ! 1", "level(-1) ! 1", "level(2147483647) ! 1", "many(1) = 5", "many(2) = 890",
            "level(5) = 890", "level(2) = 50", "level(3) = 130", "level(0) = 10", "many(1) = 0", "corner(0, 1, 1) = 1");
        run("promise 4, one thin", "start(1) = 1", "level(1) = 2", "level(2) = 5", "level(3) = 13", "level(4) = 34",
            "level(5) = 89", "start(2) = 1", "level(5) = 144", "level(4) = 55", "level(3) = 21", "level(2) = 8",
            "level(1) = 3", "start(3) = 2", "level(5) = 288");
    }

    private static void many() {
        run("promise 5", "level(3) = 130", "many(0) = 0", "many(1) = 3", "many(2) = 130", "many(3) = 50", "many(4) = 80",
            "many(5) = 60", "many(6) = 76", "many(7) = 56", "many(8) = 135", "many(9) = 125", "many(10) = 0",
            "many(11) = 10", "many(12) = 6", "many(13) = 0", "many(14) = 0", "many(15) ! 1", "many(-1) ! 1",
            "borrow(0) = 0", "many(13) = 1", "many(14) = 4", "borrow(0) ! 6", "many(13) = 1", "take(0) = 0",
            "many(14) = 0", "level(5) = 890", "many(5) = 430", "many(6) = 476", "many(7) = 416", "many(8) = 905",
            "many(9) = 875", "many(10) = 0", "many(11) = 30", "many(12) = 8");
        run("promise 5, few halves", "start(1) = 1", "many(5) = 0", "many(6) = 3", "many(7) = 0", "many(8) = 2", "many(9) = 0",
            "many(11) = 1", "many(12) = 0", "start(3) = 2", "many(5) = 1", "many(6) = 4", "many(7) = 0", "many(8) = 4",
            "many(9) = 0", "many(11) = 0", "level(1) = 6", "many(3) = 2", "many(4) = 4", "many(5) = 1", "many(7) = 1",
            "many(9) = 5", "many(11) = 4");
    }

    private static void halves() {
        run("promise 6", "half(3, 0) = 0", "half(3, 1) = 3", "half(3, 2) = -1", "half(3, 3) = -1", "half(3, 4) = -1",
            "half(3, 5) = 2", "half(3, 6) = 4", "level(1) = 20", "half(0, 0) = 0", "half(1, 0) = 1", "half(1, 2) = 0",
            "half(1, 3) = 1", "half(19, 2) = 9", "half(0, 4) = 2", "half(2, 4) = 0", "half(1, 5) = 0", "half(0, 6) = -1",
            "half(20, 0) ! 2", "half(-1, 0) ! 2", "half(0, 7) ! 1", "half(0, -1) ! 1", "half(20, 7) ! 1");
        run("promise 6, a thick one", "start(2) = 1", "half(0, 0) = 1", "half(0, 4) = -1", "half(0, 5) = -1",
            "level(2) = 8", "half(0, 1) = 0", "half(2, 1) = 2", "half(3, 1) = 3", "half(5, 1) = 5", "half(6, 1) = 6",
            "half(7, 1) = 7", "half(7, 2) = 2", "half(7, 3) = 1", "half(6, 0) = 0", "half(7, 0) = 1", "half(2, 0) = 0",
            "half(5, 2) = 1", "half(5, 3) = 2", "half(8, 1) ! 2");
        run("promise 6, two thick ones", "start(3) = 2", "half(0, 4) = 1", "half(1, 4) = 0", "half(1, 5) = -1",
            "half(1, 1) = 1", "level(5) = 288", "half(287, 2) = 109", "half(287, 1) = 455", "half(287, 3) = 2");
    }

    private static void corners() {
        run("promise 7", "corner(1, 0, 0) = 0", "corner(1, 1, 1) = 1", "corner(1, 2, 2) = 1", "corner(4, 1, 0) = -1",
            "corner(4, 2, 0) = -1", "corner(4, 2, 1) = 1", "corner(4, 2, 2) = -1", "corner(4, 2, 3) = 1",
            "corner(9, 2, 0) = 1", "corner(9, 2, 1) = 0", "corner(10, 0, 0) ! 2", "corner(-1, 0, 0) ! 2",
            "corner(0, 3, 0) ! 1", "corner(0, -1, 0) ! 1", "corner(0, 0, 4) ! 1", "corner(0, 0, -1) ! 1",
            "corner(10, 3, 0) ! 1");
        // P is A and STEP 0; C is STEP 1 times GOLD: 1, 0, 1, 0 (z z and 1 together).
        run("promise 7, a thin one cut", "start(1) = 1", "level(1) = 2", "corner(0, 0, 0) = 1", "corner(0, 0, 1) = 0",
            "corner(0, 0, 2) = 1", "corner(0, 0, 3) = 0", "corner(0, 1, 0) = 1", "corner(0, 1, 2) = 0", "corner(0, 2, 0) = 1",
            "corner(0, 2, 2) = 1", "corner(0, 2, 3) = -1", "corner(1, 0, 0) = 1", "corner(1, 0, 2) = 0",
            "corner(1, 1, 2) = 1", "corner(1, 2, 0) = 0");
        // Q: GOLD less 1; R: GOLD and STEP 3 less 1.
        run("promise 7, a thick one cut", "start(2) = 1", "level(1) = 3", "corner(1, 0, 0) = 0", "corner(1, 0, 2) = 1",
            "corner(1, 0, 3) = -1", "corner(1, 1, 0) = 0", "corner(1, 1, 2) = 1", "corner(1, 1, 3) = 0",
            "corner(1, 2, 0) = 1", "corner(1, 2, 3) = -1", "corner(0, 0, 2) = 1", "corner(0, 0, 3) = 0",
            "corner(0, 1, 0) = -1", "corner(0, 1, 1) = 1", "corner(0, 1, 2) = 0", "corner(0, 1, 3) = 1",
            "corner(0, 2, 0) = 0", "corner(2, 0, 2) = 1", "corner(2, 1, 3) = -1", "corner(2, 2, 2) = 0");
        run("promise 7, the other thick one", "start(3) = 2", "corner(1, 0, 0) = 1", "corner(1, 0, 3) = 1",
            "corner(1, 1, 0) = 1", "corner(1, 1, 3) = 0", "corner(1, 2, 0) = 0", "corner(1, 2, 3) = 1");
    }

    private static void addresses() {
        run("promise 8", "leads(0) = 0", "leads(9) = 9", "leads(10) ! 5", "leads(-1) ! 1", "leads(-2147483648) ! 1",
            "leads(2147483647) ! 5", "level(2) = 50", "leads(0) = 0", "leads(1) = 1", "leads(2) ! 5", "leads(3) = 2",
            "leads(5) = 4", "leads(6) ! 5", "leads(9) = 5", "leads(86) = 49", "leads(87) ! 5", "leads(90) ! 5",
            "start(2) = 1", "leads(0) = 0", "leads(1) ! 5", "level(2) = 8", "leads(7) = 7", "leads(8) ! 5",
            "leads(9) ! 5", "start(3) = 2", "level(5) = 288", "leads(455) = 287", "leads(456) ! 5", "leads(486) ! 5",
            "leads(243) = 144");
        run("promise 10", "ahead(7, 0) = 7", "ahead(7, 1) ! 1", "level(3) = 130", "ahead(129, 0) = 129", "ahead(129, 1) = 49",
            "ahead(129, 2) = 19", "ahead(129, 3) = 9", "ahead(129, 4) ! 1", "ahead(0, 3) = 0", "ahead(13, 3) = 1",
            "ahead(12, 3) = 0", "ahead(130, 1) ! 2", "ahead(-1, 1) ! 2", "ahead(0, -1) ! 1", "ahead(130, 4) ! 1");
    }

    private static void locate() {
        run("promise 9", "locate(0, 0, 0, 0) = 0", "locate(0, 1, 0, 0) = 0", "locate(0, 0, 1, 0) = 1", "locate(-1, 0, 0, 0) = 4",
            "locate(2, 0, 0, 0) ! 5", "locate(9999, -9999, 9999, -9999) ! 5", "locate(10000, 0, 0, 0) ! 1",
            "locate(0, -10000, 0, 0) ! 1", "locate(0, 0, 10000, 0) ! 1", "locate(0, 0, 0, 2147483647) ! 1",
            "locate(0, 0, 0, -2147483648) ! 1", "locate(0, 0, 1, -1) = 0", "locate(0, 0, -1, 1) = 4");
        // On the base: B and STEP 4; inside: STEP 1 by GOLD twice; on the leg to B, a ten-thousandth from A; as near, outside.
        run("promise 9, one thick half", "start(2) = 1", "locate(0, 1, -1, 1) = 0", "locate(-1, 2, -1, 0) = 0",
            "locate(1, -1, 1, 0) = 0", "locate(0, 1, 0, 0) ! 5", "locate(0, -1, 0, 0) ! 5", "locate(1, 0, 0, 0) = 0",
            "locate(0, 0, 0, 1) = 0", "locate(-2584, 0, 4181, -4181) = 0", "locate(-1597, 0, 2584, -2584) ! 5",
            "locate(-2583, 0, 4181, -4181) ! 5", "locate(-1596, 0, 2584, -2584) = 0");
        run("promise 9, the least", "level(1) = 20", "locate(0, 0, 0, 0) = 1", "locate(1, 0, 1, 0) = 0",
            "locate(1, 0, 0, 0) = 1", "locate(0, 1, 0, 0) = 0");
    }

    private static void growth() {
        run("promise 11", "grown(0, 0, 0) = 1", "grown(0, 1, 0) = 0", "grown(0, 0, 1) = 1", "grown(0, 1, 1) = 1",
            "grown(9, 0, 40) = 14472334024676221", "grown(9, 1, 40) = 23416728348467685", "grown(0, 0, 41) ! 1",
            "grown(0, 0, -1) ! 1", "grown(0, 2, 0) ! 1", "grown(0, -1, 0) ! 1", "grown(10, 0, 0) ! 2", "grown(-1, 0, 0) ! 2",
            "grown(10, 0, 41) ! 1", "start(2) = 1", "grown(0, 0, 0) = 0", "grown(0, 1, 0) = 1", "grown(0, 0, 1) = 1",
            "grown(0, 1, 1) = 2", "grown(0, 0, 5) = 55", "grown(0, 1, 5) = 89", "grown(0, 0, 40) = 23416728348467685",
            "grown(0, 1, 40) = 37889062373143906");
        run("promise 12", "area(0) = 10", "area(1) = 0", "area(2) ! 1", "area(-1) ! 1", "level(4) = 340", "area(0) = 130",
            "area(1) = 210", "start(3) = 2", "area(0) = 0", "area(1) = 2");
    }

    private static void distances() {
        run("promise 13", "level(1) = 20", "nearer(0, 1, 0, 1) = 0", "nearer(1, 19, 0, 4) = 1", "nearer(0, 4, 1, 19) = 0",
            "nearer(3, 3, 0, 1) = 1", "nearer(0, 1, 3, 3) = 0", "nearer(3, 3, 5, 5) = 0", "nearer(20, 0, 0, 0) ! 2",
            "nearer(0, 20, 0, 0) ! 2", "nearer(0, 0, 20, 0) ! 2", "nearer(0, 0, 0, -1) ! 2");
        // A, and A and STEP 0 and STEP 3: the square is 3 less GOLD.
        run("promise 14", "start(3) = 2", "square(0, 1, 0) = 6", "square(0, 1, 1) = -2", "square(1, 0, 1) = -2",
            "square(1, 1, 0) = 0", "square(1, 1, 1) = 0", "square(0, 1, 2) ! 1", "square(0, 1, -1) ! 1", "square(2, 0, 0) ! 2",
            "square(0, -1, 0) ! 2", "square(2, 0, 2) ! 1");
    }

    private static void drawn() {
        int cosine = Float.floatToIntBits((float) 0.809016994375);
        int sine = Float.floatToIntBits((float) 0.587785252292);
        int back = Float.floatToIntBits((float) (-1 + 0.809016994375 - 0.309016994375 - 0.309016994375));
        int down = Float.floatToIntBits((float) -0.587785252292);
        run("promise 15", "drawn(1, 1, 0) = " + cosine, "drawn(1, 1, 1) = " + sine, "drawn(0, 2, 0) = 1065353216",
            "drawn(0, 2, 1) = 0", "drawn(3, 2, 0) = " + back, "drawn(0, 0, 1) = 0", "drawn(6, 2, 1) = " + down,
            "drawn(0, 0, 2) ! 1", "drawn(0, 0, -1) ! 1", "drawn(0, 3, 0) ! 1", "drawn(0, -1, 0) ! 1", "drawn(10, 0, 0) ! 2",
            "drawn(-1, 0, 0) ! 2", "drawn(10, 3, 0) ! 1");
    }

    private static void rows() {
        run("promise 16", "row(2) ! 1", "row(-1) ! 1", "pick(0) ! 5", "row(0) = 0", "pick(0) = 1", "pick(0) = 2", "row(2) ! 1",
            "pick(1) = 3", "row(1) = 3", "row(1) = 0", "picked(0, 0, 0) ! 5");
        run("promise 17", "level(1) = 20", "pick(20) ! 2", "pick(-1) ! 2", "pick(0) ! 5", "row(0) = 0", "pick(1) ! 6", "pick(20) ! 2",
            "pick(0) = 1", "pick(2) = 2", "pick(4) = 3", "pick(6) = 4", "pick(8) = 5", "pick(10) = 6", "pick(12) = 7",
            "pick(14) = 8", "pick(16) = 9", "pick(18) = 10", "pick(0) = 11", "pick(0) = 12", "pick(0) ! 3", "pick(1) ! 3",
            "pick(20) ! 2", "row(1) = 12", "pick(0) ! 6", "pick(1) = 1");
        run("promise 17, as it is now", "level(1) = 20", "row(0) = 0", "pick(0) = 1", "picked(0, 0, 0) = 1", "picked(0, 0, 1) = 0",
            "picked(0, 0, 2) = 1", "picked(0, 0, 3) = -1", "level(0) = 10", "picked(0, 0, 3) = -1", "start(1) = 1",
            "picked(0, 0, 2) = 1", "pick(0) = 2", "picked(0, 1, 0) = 0");
        run("promise 18", "putBy() ! 5", "picked(1, 0, 0) ! 5", "row(0) = 0", "putBy() = 0", "picked(1, 0, 0) ! 5", "level(1) = 20",
            "pick(0) = 1", "picked(1, 0, 0) ! 5", "putBy() = 1", "picked(1, 0, 2) = 1", "pick(2) = 2", "picked(1, 1, 0) ! 5",
            "row(1) = 2", "picked(1, 0, 2) = 1", "picked(0, 0, 2) ! 5", "putBy() = 0", "picked(1, 0, 2) ! 5");
        run("promise 19", "level(1) = 20", "row(1) = 0", "pick(1) = 1", "pick(3) = 2", "picked(0, 0, 1) = 1", "picked(0, 1, 1) = 1",
            "picked(0, 2, 0) ! 5", "picked(0, -1, 0) ! 1", "picked(2, 0, 0) ! 1", "picked(-1, 0, 0) ! 1",
            "picked(0, 0, 4) ! 1", "picked(0, 0, -1) ! 1", "picked(0, 2147483647, 0) ! 5", "picked(1, 0, 0) ! 5");
    }

    private static void common() {
        run("promise 20", "common(0, 1) ! 5", "common(3, 3) = 0", "level(3) = 130", "common(0, 0) = 3", "common(0, 1) = 2",
            "common(0, 4) = 1", "common(0, 12) = 0", "common(12, 0) = 0", "common(0, 13) ! 5", "common(0, 130) ! 2",
            "common(-1, 0) ! 2");
    }

    private static void walks() {
        run("promise 21", "steps(0, 0) = 0", "steps(0, 1) = 1", "steps(0, 9) = 1", "steps(9, 5) = 4", "steps(0, 10) ! 2",
            "steps(-1, 0) ! 2", "level(1) = 20", "steps(0, 2) = 1", "steps(0, 1) = 1", "steps(1, 2) = 2", "steps(0, 10) = 7",
            "start(3) = 2", "steps(0, 1) = 1", "start(1) = 1", "steps(0, 0) = 0");
        run("promise 22", "around(0, 0) = 1", "around(0, 1) = 3", "around(0, 4) = 9", "around(0, 5) = 10", "around(0, 40) = 10",
            "around(0, 41) ! 1", "around(0, -1) ! 1", "around(10, 0) ! 2", "around(-1, 0) ! 2", "around(10, 41) ! 1",
            "level(1) = 20", "around(0, 1) = 3", "around(1, 1) = 4", "level(5) = 890", "around(0, 0) = 1");
    }

    private static void ribbons() {
        run("promise 23", "ribbon(0, 0, 0) ! 5", "level(1) = 20", "ribbon(0, 0, 0) = 4", "ribbon(0, 0, 1) = 0",
            "ribbon(0, 2, 0) ! 1", "ribbon(0, -1, 0) ! 1", "ribbon(0, 0, 2) ! 1", "ribbon(0, 0, -1) ! 1",
            "ribbon(20, 0, 0) ! 2", "ribbon(-1, 0, 0) ! 2", "ribbon(20, 2, 0) ! 1", "ribbon(0, 1, 0) = 4",
            "start(3) = 2", "ribbon(0, 0, 0) = 1", "ribbon(1, 1, 0) = 1", "ribbon(1, 1, 1) = 0", "level(1) = 6",
            "ribbon(0, 0, 0) ! 5");
    }

    private static void likeness() {
        run("promise 24", "like(0, false) = 1", "like(1, false) = 0", "like(2, false) = 1", "like(8, false) = 1",
            "like(9, false) = 0", "like(0, true) = 1", "like(2, true) = 1", "like(3, true) = 0", "like(10, false) ! 1",
            "like(-1, true) ! 1", "level(5) = 890", "like(4, false) = 1", "like(5, false) = 0", "like(6, true) = 1",
            "like(7, true) = 0", "start(1) = 1", "like(0, false) = 1", "like(1, true) = 0", "like(5, false) = 0",
            "start(3) = 2", "like(5, false) = 0", "like(0, true) = 0", "like(0, false) = 1");
    }

    private static void sides() {
        run("promise 25", "legs(0) = 2", "legs(4) = 2", "legs(5) ! 1", "legs(-1) ! 1", "start(2) = 1", "legs(0) = 1",
            "legs(1) = 0", "legs(3) = 1", "start(3) = 2", "legs(0) = 2", "legs(3) = 2", "legs(2) = 0", "level(5) = 288",
            "legs(0) = 63", "legs(1) = 56", "legs(2) = 56", "legs(3) = 63", "legs(4) = 59");
        run("promise 26", "border(0) = 0", "border(1) = 10", "border(2) ! 1", "border(-1) ! 1", "level(1) = 20",
            "border(0) = 10", "border(1) = 0", "start(1) = 1", "border(0) = 2", "border(1) = 1", "start(3) = 2",
            "border(0) = 4", "border(1) = 0", "level(5) = 288", "border(0) = 18", "border(1) = 20");
    }

    private static void figures() {
        run("promise 27", "tenths(3, 0) = 10", "tenths(3, 1) = 4", "tenths(3, 3) ! 1", "tenths(3, -1) ! 1", "tenths(10, 0) ! 2",
            "tenths(-1, 0) ! 2", "tenths(10, 3) ! 1", "start(1) = 1", "tenths(0, 0) = 1", "tenths(0, 1) = 2", "tenths(0, 2) = 2",
            "start(2) = 1", "tenths(0, 0) = 3", "tenths(0, 1) = 1", "tenths(0, 2) = 1", "start(3) = 2", "tenths(1, 0) = 3",
            "tenths(1, 1) = 2");
        // 244 by sevens: thin B, thick A, thick A; 66666: five times thick C.
        run("promise 28", "figure(0, 0) ! 5", "figure(0, 1) ! 5", "level(1) = 20", "figure(0, 1) = 130", "figure(1, 2) = 16806",
            "figure(1, 0) = 130", "figure(0, 2) ! 5", "figure(0, 3) ! 1", "figure(0, -1) ! 1", "figure(20, 0) ! 2",
            "figure(-1, 0) ! 2", "figure(20, 3) ! 1", "level(2) = 50", "figure(0, 0) ! 5", "locate(0, 0, 0, 0) = 2",
            "half(2, 0) = 1", "figure(2, 1) = 14005");
        run("promise 29", "atlas(0) ! 5", "atlas(-1) ! 1", "level(5) = 890", "atlas(0) = 130", "atlas(1) = 174", "atlas(2) = 1371",
            "atlas(3) = 3981", "atlas(4) = 14005", "atlas(5) = 16806", "atlas(6) = 21208", "atlas(7) = 146893",
            "atlas(8) ! 5", "atlas(2147483647) ! 5", "level(1) = 20", "atlas(1) = 16806", "atlas(2) ! 5");
        run("promise 30", "having(0) = 0", "having(-1) ! 1", "having(2147483647) = 0", "level(5) = 890", "having(130) = 155",
            "having(174) = 60", "having(1371) = 35", "having(3981) = 80", "having(14005) = 5", "having(16806) = 16",
            "having(21208) = 10", "having(146893) = 25", "having(131) = 0", "start(3) = 2", "level(3) = 42",
            "having(130) = 2", "having(174) = 3");
    }

    private static void comes() {
        run("promise 31", "comes(0, 130) = 1", "comes(1, 130) = 4", "comes(2, 130) = 4", "comes(3, 130) = 2", "comes(0, 174) = 2",
            "comes(1, 174) = 3", "comes(0, 14005) = 2", "comes(1, 14005) ! 5", "comes(2, 14005) ! 5", "comes(3, 14005) = 5",
            "comes(0, 21208) = 4", "comes(1, 21208) ! 5", "comes(2, 21208) = 5", "comes(3, 1371) = 2", "comes(1, 1371) = 5",
            "comes(0, 0) ! 5", "comes(0, 131) ! 5", "comes(0, -1) ! 1", "comes(4, 130) ! 1", "comes(-1, 130) ! 1",
            "comes(0, 2147483647) ! 5", "many(0) = 0", "many(1) = 0", "many(12) = 0", "level(2) = 50", "comes(3, 130) = 2",
            "many(2) = 50", "many(0) = 0", "atlas(0) = 174");
    }
}

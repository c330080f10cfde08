import java.util.ArrayList;
import java.util.List;

/**
 * Promises 39 to 42 round one POINT: one, two and three RHOMBS there, of every shape in every direction, held against
 * all fillings of the GAPS, told one by one from the document's list of SECTORS.
 */
public final class WaysTest {
    /** A SECTOR: KIND, the corner that lies at the POINT, HAND, TENTHS, and what is on its first and its last edge. */
    private record Sector(int kind, int corner, int hand, int width, String first, String last) {
    }

    /** At A of HAND 0 the edge to B is the first against the clock, of HAND 1 that to C; at B and C both edges are alike. */
    private static final List<Sector> SECTORS = List.of(
        new Sector(0, 0, 0, 1, "0 out", "1 out"), new Sector(0, 0, 1, 1, "1 out", "0 out"),
        new Sector(0, 1, 0, 4, "0 in", "0 in"), new Sector(0, 3, 0, 4, "1 in", "1 in"),
        new Sector(1, 0, 0, 3, "0 in", "1 out"), new Sector(1, 0, 1, 3, "1 out", "0 in"),
        new Sector(1, 1, 0, 2, "0 out", "0 out"), new Sector(1, 3, 0, 2, "1 in", "1 in"));

    private static final Check CHECK = new Check();

    public static void main(String[] args) {
        for (Sector one : SECTORS) {
            for (int d = 0; d < 10; d++) {
                round(List.of(one), d);
                for (Sector two : SECTORS) {
                    for (int free = 0; free <= 10 - one.width - two.width; free++) {
                        round(List.of(one, two), d, free);
                        threeRound(one, two, d, free);
                    }
                }
            }
        }
        CHECK.end("WaysTest");
    }

    /** By fewer directions: the third in the last GAP, as near to the first as it goes, and one TENTH less near. */
    private static void threeRound(Sector one, Sector two, int d, int free) {
        for (Sector three : SECTORS) {
            int left = 10 - one.width - two.width - free - three.width;
            for (int more = Math.max(0, left - 1); more <= left && d % 3 == 0; more++) {
                round(List.of(one, two, three), d, free, more);
            }
        }
    }

    private static int fillings(int width, String edge, String end) {
        if (width == 0) {
            return edge.equals(end) ? 1 : 0;
        }
        int ways = 0;
        for (Sector sector : SECTORS) {
            if (sector.width <= width && sector.first.equals(edge)) {
                ways += fillings(width - sector.width, sector.last, end);
            }
        }
        return ways;
    }

    /** SECTORS from a direction on, with so many free TENTHS between each and the next. */
    private static void round(List<Sector> there, int d, int... free) {
        RhombInflator x = new RhombInflator();
        int at = d;
        int taken = 0;
        int gaps = 0;
        int widest = 0;
        int ways = 1;
        List<String> told = new ArrayList<>();
        for (int n = 0; n < there.size(); n++) {
            Sector sector = there.get(n);
            int[] rhomb = ContactTest.spreading(sector.kind, sector.hand, sector.corner, new int[4], at);
            told.add(java.util.Arrays.toString(rhomb));
            int got = x.lay(rhomb[0], rhomb[1], rhomb[2], rhomb[3], rhomb[4], rhomb[5], rhomb[6]);
            int gap = n < free.length ? free[n] : 10 - at + d - sector.width;
            Sector next = there.get((n + 1) % there.size());
            if (got != n) {
                // It can't be laid, as an edge is unlike there, or beyond the POINT it lies on another one.
                return;
            }
            taken += sector.width;
            gaps += gap > 0 ? 1 : 0;
            widest = Math.max(widest, gap);
            ways *= gap > 0 ? fillings(gap, sector.last, next.first) : 1;
            at += sector.width + gap;
        }
        int point = x.pointOf(0, there.get(0).corner);
        CHECK.due("taken round " + told, x.taken(point), taken);
        CHECK.due("gaps round " + told, x.gaps(point, 0), gaps);
        CHECK.due("the widest gap round " + told, x.gaps(point, 1), widest);
        CHECK.due("ways round " + told, x.ways(point), ways);
        CHECK.due("STATUS round " + told, x.status(), 0);
    }
}

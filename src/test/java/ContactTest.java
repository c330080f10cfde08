/**
 * Promise 32 where two RHOMBS just touch: every corner of every shape against every edge of every shape, at the edge's
 * end, within the edge, a little across it and a little away from it; and every edge against every edge, by MARKS and
 * arrows. Each of the two is laid first once.
 */
public final class ContactTest {
    private static final int[][] STEPS = PatchBoundsTest.STEPS;
    private static final Check CHECK = new Check();
    private static RhombInflator object = new RhombInflator();
    private static int used = 0;

    public static void main(String[] args) {
        for (int shape = 0; shape < 40; shape++) {
            int[] base = {shape / 20, 0, 0, 0, 0, shape % 10, shape / 10 % 2};
            for (int edge = 0; edge < 4; edge++) {
                for (int other = 0; other < 16; other++) {
                    touch(base, edge, other / 8, other / 4 % 2, other % 4);
                    meet(base, edge, other / 8, other / 4 % 2, other % 4);
                }
            }
        }
        CHECK.end("ContactTest");
    }

    private static int[] step(int d) {
        return STEPS[Math.floorMod(d, 10)];
    }

    private static int[] sum(int[] one, int[] two, int times) {
        int[] sum = new int[4];
        for (int which = 0; which < 4; which++) {
            sum[which] = one[which] + times * two[which];
        }
        return sum;
    }

    private static int breadth(int kind) {
        return kind == 0 ? 1 : 3;
    }

    /** The direction from corner e of a RHOMB (A, B, the other A, C) to the next one. */
    private static int edgeDirection(int[] rhomb, int e) {
        int turn = rhomb[6] == 0 ? breadth(rhomb[0]) : -breadth(rhomb[0]);
        return rhomb[5] + (e % 2 == 1 ? turn : 0) + (e < 2 ? 0 : 5);
    }

    private static int[] cornerOf(int[] rhomb, int corner) {
        int[] at = {rhomb[1], rhomb[2], rhomb[3], rhomb[4]};
        for (int e = 0; e < corner; e++) {
            at = sum(at, step(edgeDirection(rhomb, e)), 1);
        }
        return at;
    }

    /** A RHOMB that has a corner at a point, from which it spreads against the clock from a direction on. */
    static int[] spreading(int kind, int hand, int corner, int[] point, int from) {
        for (int d = 0; d < 10; d++) {
            int[] rhomb = {kind, 0, 0, 0, 0, d, hand};
            int onward = edgeDirection(rhomb, corner);
            int back = edgeDirection(rhomb, (corner + 3) % 4) + 5;
            if (Math.floorMod((hand == 0 ? onward : back) - from, 10) == 0) {
                int[] a = sum(point, cornerOf(rhomb, corner), -1);
                return new int[] {kind, a[0], a[1], a[2], a[3], d, hand};
            }
        }
        throw new IllegalStateException("every direction is one of ten");
    }

    private static void touch(int[] base, int edge, int kind, int hand, int corner) {
        int along = edgeDirection(base, edge);
        int width = corner % 2 == 0 ? breadth(kind) : 5 - breadth(kind);
        int outward = base[6] == 0 ? along + 6 : along + 1;
        int[] end = cornerOf(base, edge);
        // GOLD times a STEP is the two STEPS beside it; less the STEP it lies within it.
        int[] within = sum(sum(sum(end, step(along + 1), 1), step(along - 1), 1), step(along), -1);
        // Five times GOLD, less 8, is nearly a tenth of a STEP: so far across the edge.
        int inward = base[6] == 0 ? along + 2 : along - 2;
        int[] little = sum(sum(sum(new int[4], step(inward + 1), 5), step(inward - 1), 5), step(inward), -8);
        both(base, spreading(kind, hand, corner, within, outward), 6);
        both(base, spreading(kind, hand, corner, sum(within, little, 1), outward), 6);
        both(base, spreading(kind, hand, corner, sum(within, little, -1), outward), 0);
        // Four TENTHS wide it lies along the edge, and MARKS would count.
        if (width < 4) {
            both(base, spreading(kind, hand, corner, end, outward), 0);
        }
    }

    /** What is on an edge, seen from its first corner to the next one: the MARK, and whether the arrow leads that way. */
    private static int markOf(int edge) {
        return edge == 0 || edge == 1 ? 0 : 1;
    }

    private static boolean arrowLeadsOn(int kind, int edge) {
        switch (edge) {
            case 0: return kind == 0;
            case 1: return kind == 1;
            case 2: return true;
            default: return false;
        }
    }

    /** The other one has its edge where the first has one, on the other side of it. */
    private static void meet(int[] base, int edge, int kind, int hand, int otherEdge) {
        boolean sameWay = hand != base[6];
        int[] from = cornerOf(base, sameWay ? edge : (edge + 1) % 4);
        int along = edgeDirection(base, edge) + (sameWay ? 0 : 5);
        for (int d = 0; d < 10; d++) {
            int[] rhomb = {kind, 0, 0, 0, 0, d, hand};
            if (Math.floorMod(edgeDirection(rhomb, otherEdge) - along, 10) == 0) {
                int[] a = sum(from, cornerOf(rhomb, otherEdge), -1);
                boolean oneArrow = arrowLeadsOn(base[0], edge) == arrowLeadsOn(kind, otherEdge) == sameWay;
                boolean alike = markOf(edge) == markOf(otherEdge) && oneArrow;
                both(base, new int[] {kind, a[0], a[1], a[2], a[3], d, hand}, alike ? 0 : 7);
                CHECK.due("meeting", object.meeting(0), alike ? 1 : 0);
                CHECK.due("open", object.open(), alike ? 6 : 4);
            }
        }
    }

    private static void both(int[] one, int[] two, int status) {
        expect(one, two, status);
        expect(two, one, status);
    }

    private static int lay(int[] rhomb) {
        return object.lay(rhomb[0], rhomb[1], rhomb[2], rhomb[3], rhomb[4], rhomb[5], rhomb[6]);
    }

    private static void expect(int[] first, int[] second, int status) {
        if (used > 500) {
            object = new RhombInflator();
            used = 0;
        }
        used += 7;
        object.clear();
        String told = "lay" + java.util.Arrays.toString(second) + " beside " + java.util.Arrays.toString(first);
        CHECK.gives(object, told + ", the first", lay(first), 0);
        CHECK.due(object, told, lay(second), status == 0 ? 1 : -1, status);
    }
}

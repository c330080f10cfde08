/**
 * Promises 9 and 32 where it is nearest: points on the sides of a half and beside them, rhombs moved along an edge and
 * across it, by whole numbers and so many times GOLD.
 */
public final class NearnessTest {
    private static final double GOLD = (1 + Math.sqrt(5)) / 2;
    private static final Check CHECK = new Check();
    private static RhombInflator object = new RhombInflator();
    private static int used = 0;

    public static void main(String[] args) {
        for (int d = 0; d < 10; d++) {
            for (int gold = -600; gold <= 600; gold++) {
                int one = (int) Math.round(-gold * GOLD);
                for (int more = -2; more <= 2; more++) {
                    along(d, one + more, gold);
                }
                across(d, one, gold);
            }
        }
        for (int gold = -6000; gold <= 6000; gold += 3) {
            int one = (int) Math.round(-gold * GOLD);
            for (int more = -1; more <= 2; more++) {
                onSides(one + more, gold);
            }
            besideLeg(one, gold);
        }
        CHECK.end("NearnessTest");
    }

    /** On the lines of the legs and the base of a thick half: A 0, B STEP 0, C STEP 3; the base is GOLD long, the way of STEP 4. */
    private static void onSides(int one, int gold) {
        double far = one + gold * GOLD;
        boolean onLeg = far > -1e-9 && far < 1 + 1e-9;
        boolean onBase = far > -1e-9 && far < GOLD + 1e-9;
        locate(times(one, gold, 0), onLeg);
        locate(times(one, gold, 3), onLeg);
        locate(PatchModel.plus(PatchModel.step(0), times(one, gold, 4)), onBase);
    }

    /** Beside the middle of the leg to B, a little to the one or the other side. */
    private static void besideLeg(int one, int gold) {
        double far = one + gold * GOLD;
        if (Math.abs(far) < 0.1) {
            locate(PatchModel.plus(times(2, -1, 0), times(one, gold, 2)), far > -1e-9);
        }
    }

    private static void locate(int[] point, boolean inside) {
        for (int number : point) {
            if (number < -9999 || number > 9999) {
                return;
            }
        }
        if (used > 500) {
            object = new RhombInflator();
            used = 0;
        }
        used += 3;
        object.start(2);
        String call = "locate(" + point[0] + ", " + point[1] + ", " + point[2] + ", " + point[3] + ")";
        int got = object.locate(point[0], point[1], point[2], point[3]);
        CHECK.due(object, call, got, inside ? 0 : -1, inside ? 0 : 5);
    }

    /** So many times STEP d. */
    private static int[] times(int one, int gold, int d) {
        return PatchModel.times(new int[] {one + gold, 0, gold, -gold}, PatchModel.step(d));
    }

    private static boolean fits(int[] point) {
        for (int number : point) {
            if (number < -999 || number > 999) {
                return false;
            }
        }
        return true;
    }

    /** One on each side of a line, an edge of each on it: less than a STEP apart, a corner is within an edge. */
    private static void along(int d, int one, int gold) {
        double moved = one + gold * GOLD;
        boolean within = Math.abs(moved) < 1 && (one != 0 || gold != 0);
        boolean apart = gold == 0 || Math.abs(Math.abs(moved) - 1) > 1e-9;
        if (apart) {
            expect(d, times(one, gold, d), d, within ? 6 : 0);
        }
    }

    /** The same two, one of them moved by a little across the line: into the other one, or away from it. */
    private static void across(int d, int one, int gold) {
        double moved = one + gold * GOLD;
        if (gold != 0 && Math.abs(moved) < 0.5) {
            expect(d, times(one, gold, d + 1), d, moved > 0 ? 6 : 0);
        }
    }

    private static void expect(int d, int[] a, int turn, int status) {
        if (!fits(a)) {
            return;
        }
        if (used > 500) {
            object = new RhombInflator();
            used = 0;
        }
        used += 3;
        object.clear();
        object.lay(1, 0, 0, 0, 0, d, 0);
        String call = "lay(1, " + a[0] + ", " + a[1] + ", " + a[2] + ", " + a[3] + ", " + turn + ", 1) beside one of direction " + d;
        CHECK.due(object, call, object.lay(1, a[0], a[1], a[2], a[3], turn, 1), status == 0 ? 1 : -1, status);
    }
}

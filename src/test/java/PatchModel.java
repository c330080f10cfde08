import java.util.ArrayList;
import java.util.Arrays;
import java.util.HashMap;
import java.util.HashSet;
import java.util.List;
import java.util.Map;
import java.util.Set;
import java.util.TreeSet;

/** A patch in the document's own words, slow and plain: what the class is held against. */
final class PatchModel {
    static final double TINY = 1e-7;

    /** A half; its mother is its number at the level less 1, its digit the part of it. */
    record Half(int kind, int[][] corners, int mother, int digit, int first, int address) {
    }

    final int start;
    final int level;
    final List<Half> halves;
    private final Map<String, List<Integer>> bySide = new HashMap<>();
    private final Map<String, List<Integer>> byPoint = new HashMap<>();

    PatchModel(int start, int level) {
        this.start = start;
        this.level = level;
        List<Half> grown = startHalves(start);
        for (int n = 0; n < level; n++) {
            grown = cut(grown);
        }
        halves = grown;
        for (int i = 0; i < halves.size(); i++) {
            for (int side = 0; side < 3; side++) {
                bySide.computeIfAbsent(sideText(i, side), text -> new ArrayList<>()).add(i);
            }
            for (int[] corner : halves.get(i).corners()) {
                byPoint.computeIfAbsent(Arrays.toString(corner), text -> new ArrayList<>()).add(i);
            }
        }
    }

    // ---- the ring

    /** By the rule that z z z z is z z z less z z, and z, less 1. */
    static int[] times(int[] x, int[] y) {
        int[] all = new int[7];
        for (int i = 0; i < 4; i++) {
            for (int j = 0; j < 4; j++) {
                all[i + j] += x[i] * y[j];
            }
        }
        for (int n = 6; n >= 4; n--) {
            all[n - 1] += all[n];
            all[n - 2] -= all[n];
            all[n - 3] += all[n];
            all[n - 4] -= all[n];
        }
        return Arrays.copyOf(all, 4);
    }

    static int[] step(int d) {
        int[] power = {1, 0, 0, 0};
        for (int n = 0; n < Math.floorMod(d, 10); n++) {
            power = times(power, new int[] {0, 1, 0, 0});
        }
        return power;
    }

    static int[] plus(int[] x, int[] y) {
        return new int[] {x[0] + y[0], x[1] + y[1], x[2] + y[2], x[3] + y[3]};
    }

    static int[] minus(int[] x, int[] y) {
        return new int[] {x[0] - y[0], x[1] - y[1], x[2] - y[2], x[3] - y[3]};
    }

    static double x(int[] point) {
        double sum = 0;
        for (int k = 0; k < 4; k++) {
            sum += point[k] * Math.cos(Math.PI * k / 5);
        }
        return sum;
    }

    static double y(int[] point) {
        double sum = 0;
        for (int k = 0; k < 4; k++) {
            sum += point[k] * Math.sin(Math.PI * k / 5);
        }
        return sum;
    }

    /** Twice the area of a triangle, with a sign. */
    static double turn(int[] a, int[] b, int[] c) {
        return (x(b) - x(a)) * (y(c) - y(a)) - (y(b) - y(a)) * (x(c) - x(a));
    }

    // ---- starts and cuts

    private static Half first(int kind, int number, int[] a, int[] b, int[] c) {
        return new Half(kind, new int[][] {a, b, c}, -1, -1, number, number);
    }

    private static List<Half> startHalves(int start) {
        List<Half> made = new ArrayList<>();
        int[] zero = {0, 0, 0, 0};
        if (start == 0) {
            for (int i = 0; i < 10; i++) {
                int[] near = step(i);
                int[] far = step(i + 1);
                made.add(first(0, i, zero, i % 2 == 1 ? near : far, i % 2 == 1 ? far : near));
            }
        }
        if (start == 1) {
            made.add(first(0, 0, zero, step(0), step(1)));
        }
        if (start >= 2) {
            made.add(first(1, 0, zero, step(0), step(3)));
        }
        if (start == 3) {
            made.add(first(1, 1, plus(step(0), step(3)), step(0), step(3)));
        }
        return made;
    }

    private static List<Half> cut(List<Half> whole) {
        List<Half> parts = new ArrayList<>();
        int[] gold = {1, 0, 1, -1};
        for (int i = 0; i < whole.size(); i++) {
            Half half = whole.get(i);
            int[] a0 = half.corners()[0];
            int[] b0 = half.corners()[1];
            int[] c0 = half.corners()[2];
            int[] a = times(a0, gold);
            int[] b = times(b0, gold);
            int[] c = times(c0, gold);
            if (half.kind() == 0) {
                int[] p = plus(a, minus(b0, a0));
                parts.add(part(half, i, 0, 0, new int[][] {c, p, b}));
                parts.add(part(half, i, 1, 1, new int[][] {p, c, a}));
            } else {
                int[] q = plus(b, minus(a0, b0));
                int[] r = plus(b, minus(c0, b0));
                parts.add(part(half, i, 0, 1, new int[][] {r, c, a}));
                parts.add(part(half, i, 1, 1, new int[][] {q, r, b}));
                parts.add(part(half, i, 2, 0, new int[][] {r, q, a}));
            }
        }
        return parts;
    }

    private static Half part(Half whole, int mother, int digit, int kind, int[][] corners) {
        return new Half(kind, corners, mother, digit, whole.first(), whole.address() * 3 + digit);
    }

    // ---- sides

    static String segment(int[] a, int[] b) {
        String one = Arrays.toString(a);
        String two = Arrays.toString(b);
        return one.compareTo(two) < 0 ? one + two : two + one;
    }

    int[] end(int i, int side, int which) {
        int[][] ends = {{0, 1}, {0, 2}, {1, 2}};
        return halves.get(i).corners()[ends[side][which]];
    }

    String sideText(int i, int side) {
        return segment(end(i, side, 0), end(i, side, 1));
    }

    /** Mark and arrow of a leg, as a text. */
    String arrow(int i, int leg) {
        boolean away = leg == 1 || halves.get(i).kind() == 0;
        String a = Arrays.toString(end(i, leg, 0));
        String b = Arrays.toString(end(i, leg, 1));
        return leg + (away ? a + ">" + b : b + ">" + a);
    }

    int other(int i, int side) {
        for (int j : bySide.get(sideText(i, side))) {
            if (j != i) {
                return j;
            }
        }
        return -1;
    }

    int twin(int i) {
        Half half = halves.get(i);
        for (int j : bySide.get(sideText(i, 2))) {
            Half like = halves.get(j);
            if (j != i && like.kind() == half.kind() && Arrays.equals(like.corners()[1], half.corners()[1])
                && Arrays.equals(like.corners()[2], half.corners()[2])) {
                return j;
            }
        }
        return -1;
    }

    int legOf(int i, String side) {
        return sideText(i, 0).equals(side) ? 0 : sideText(i, 1).equals(side) ? 1 : -1;
    }

    Set<String> legTexts() {
        Set<String> texts = new TreeSet<>();
        for (int i = 0; i < halves.size(); i++) {
            texts.add(sideText(i, 0));
            texts.add(sideText(i, 1));
        }
        return texts;
    }

    /** Legs of two halves: those at which they meet, or those at which they don't. */
    int sharedLegs(boolean meet) {
        int found = 0;
        for (String text : legTexts()) {
            List<Integer> at = bySide.get(text);
            if (at.size() == 2) {
                String one = arrow(at.get(0), legOf(at.get(0), text));
                String two = arrow(at.get(1), legOf(at.get(1), text));
                found += one.equals(two) == meet ? 1 : 0;
            }
        }
        return found;
    }

    int alone(boolean legs) {
        int found = 0;
        for (Map.Entry<String, List<Integer>> entry : bySide.entrySet()) {
            boolean isLeg = legOf(entry.getValue().get(0), entry.getKey()) >= 0;
            found += entry.getValue().size() == 1 && isLeg == legs ? 1 : 0;
        }
        return found;
    }

    int legsLeading(int d) {
        Set<String> texts = new HashSet<>();
        for (int i = 0; i < halves.size(); i++) {
            for (int leg = 0; leg < 2; leg++) {
                int[] way = minus(end(i, leg, 1), end(i, leg, 0));
                if (Arrays.equals(way, step(d)) || Arrays.equals(way, step(d + 5))) {
                    texts.add(sideText(i, leg));
                }
            }
        }
        return texts.size();
    }

    int[] distances(int from) {
        int[] far = new int[halves.size()];
        Arrays.fill(far, -1);
        far[from] = 0;
        List<Integer> ring = List.of(from);
        for (int n = 1; !ring.isEmpty(); n++) {
            List<Integer> next = new ArrayList<>();
            for (int i : ring) {
                for (int side = 0; side < 3; side++) {
                    int j = other(i, side);
                    if (j >= 0 && far[j] < 0) {
                        far[j] = n;
                        next.add(j);
                    }
                }
            }
            ring = next;
        }
        return far;
    }

    /** Halves of all rhombs that hang together by edges which lead the same way as a leg. */
    TreeSet<Integer> ribbon(int i, int leg) {
        int[] way = minus(end(i, leg, 1), end(i, leg, 0));
        TreeSet<Integer> in = new TreeSet<>(List.of(i, twin(i)));
        List<Integer> open = new ArrayList<>(in);
        while (!open.isEmpty()) {
            int j = open.remove(open.size() - 1);
            for (int side = 0; side < 2; side++) {
                int[] other = minus(end(j, side, 1), end(j, side, 0));
                int next = other(j, side);
                boolean along = Arrays.equals(other, way) || Arrays.equals(other, minus(new int[4], way));
                if (along && next >= 0 && twin(next) >= 0 && in.add(next)) {
                    in.add(twin(next));
                    open.add(next);
                    open.add(twin(next));
                }
            }
        }
        return in;
    }

    boolean like(int k, boolean flip) {
        Set<String> all = new HashSet<>();
        for (Half half : halves) {
            all.add(half.kind() + Arrays.deepToString(half.corners()));
        }
        for (Half half : halves) {
            int[][] moved = new int[3][];
            for (int corner = 0; corner < 3; corner++) {
                int[] point = half.corners()[corner];
                int[] sum = new int[4];
                for (int n = 0; n < 4; n++) {
                    int[] unit = times(step(flip ? 10 - n : n), step(k));
                    for (int m = 0; m < 4; m++) {
                        sum[m] += point[n] * unit[m];
                    }
                }
                moved[corner] = sum;
            }
            if (!all.contains(half.kind() + Arrays.deepToString(moved))) {
                return false;
            }
        }
        return true;
    }

    boolean holds(int i, int[] point) {
        int[][] c = halves.get(i).corners();
        double way = turn(c[0], c[1], c[2]) > 0 ? 1 : -1;
        return way * turn(c[0], c[1], point) > -TINY && way * turn(c[1], c[2], point) > -TINY
            && way * turn(c[2], c[0], point) > -TINY;
    }

    // ---- round points

    Set<String> points() {
        return byPoint.keySet();
    }

    int tenths(String point) {
        int sum = 0;
        for (int i : byPoint.get(point)) {
            Half half = halves.get(i);
            boolean atA = Arrays.toString(half.corners()[0]).equals(point);
            sum += half.kind() == 0 ? (atA ? 1 : 2) : (atA ? 3 : 1);
        }
        return sum;
    }

    /** The figure of a point, its sectors put in order by the angles to the middles of their rhombs. */
    int figure(String point) {
        if (tenths(point) != 10) {
            return -1;
        }
        List<double[]> sectors = new ArrayList<>();
        for (int i : byPoint.get(point)) {
            int twin = twin(i);
            if (twin < 0) {
                return -1;
            }
            int[][] c = halves.get(i).corners();
            int corner = 0;
            while (!Arrays.toString(c[corner]).equals(point)) {
                corner++;
            }
            if (corner == 0 || i < twin) {
                double wide = (x(c[1]) + x(c[2])) / 2 - x(c[corner]);
                double high = (y(c[1]) + y(c[2])) / 2 - y(c[corner]);
                sectors.add(new double[] {Math.atan2(high, wide), corner + 3 * halves.get(i).kind()});
            }
        }
        sectors.sort((one, two) -> Double.compare(one[0], two[0]));
        int least = Integer.MAX_VALUE;
        for (int first = 0; first < sectors.size(); first++) {
            int number = 0;
            for (int n = 0; n < sectors.size(); n++) {
                number = 7 * number + 1 + (int) sectors.get((first + n) % sectors.size())[1];
            }
            least = Math.min(least, number);
        }
        return least;
    }

    TreeSet<Integer> atlas() {
        TreeSet<Integer> all = new TreeSet<>();
        for (String point : points()) {
            all.add(figure(point));
        }
        all.remove(-1);
        return all;
    }

    int having(int figure) {
        int found = 0;
        for (String point : points()) {
            found += figure(point) == figure ? 1 : 0;
        }
        return found;
    }
}

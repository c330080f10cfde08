import java.math.BigInteger;
import java.nio.charset.StandardCharsets;
import java.util.ArrayList;
import java.util.Arrays;
import java.util.HashMap;
import java.util.List;
import java.util.Map;

/** All calls of the face by the two models, each with its status. */
final class Model {
    private static final Map<Integer, PatchModel> MADE = new HashMap<>();

    PatchModel patch = made(0, 0);
    TableModel table = new TableModel();
    private int status;
    private int rowKind = -1;
    private List<int[]> row = new ArrayList<>();
    private List<int[]> shelf = new ArrayList<>();
    private byte[] tape = new byte[0];
    private String out = "";

    static PatchModel made(int start, int level) {
        return MADE.computeIfAbsent(10 * start + level, number -> new PatchModel(start, level));
    }

    int status() {
        return status;
    }

    int tapeLength() {
        return tape.length;
    }

    private int no(int why) {
        status = why;
        return -1;
    }

    private int yes(int value) {
        status = 0;
        return value;
    }

    private boolean out(int value, int most) {
        return value < 0 || value > most;
    }

    private boolean noHalf(int... numbers) {
        for (int i : numbers) {
            if (i < 0 || i >= patch.halves.size()) {
                return true;
            }
        }
        return false;
    }

    long call(String name, Object[] given) {
        int[] n = new int[8];
        for (int k = 0; k < given.length; k++) {
            n[k] = given[k] instanceof Integer ? (Integer) given[k] : (Boolean) given[k] ? 1 : 0;
        }
        Long answer = patchCall(name, n);
        answer = answer != null ? answer : sidesCall(name, n);
        answer = answer != null ? answer : tableCall(name, n);
        answer = answer != null ? answer : tapeCall(name, n);
        if (answer == null) {
            throw new IllegalStateException(name);
        }
        return answer;
    }

    private Long patchCall(String name, int[] n) {
        switch (name) {
            case "status": return (long) status;
            case "start":
                if (out(n[0], 3)) {
                    return (long) no(1);
                }
                patch = made(n[0], 0);
                return (long) yes(patch.halves.size());
            case "level":
                if (out(n[0], 5)) {
                    return (long) no(1);
                }
                patch = made(patch.start, n[0]);
                return (long) yes(patch.halves.size());
            case "many": return (long) (out(n[0], 14) ? no(1) : yes(many(n[0])));
            case "half": return (long) (out(n[1], 6) ? no(1) : noHalf(n[0]) ? no(2) : yes(half(n[0], n[1])));
            case "corner":
                return (long) (out(n[1], 2) || out(n[2], 3) ? no(1) : noHalf(n[0]) ? no(2)
                    : yes(patch.halves.get(n[0]).corners()[n[1]][n[2]]));
            case "leads":
                for (int i = 0; i < patch.halves.size(); i++) {
                    if (patch.halves.get(i).address() == n[0]) {
                        return (long) yes(i);
                    }
                }
                return (long) no(n[0] < 0 ? 1 : 5);
            case "locate":
                for (int k = 0; k < 4; k++) {
                    if (n[k] < -9999 || n[k] > 9999) {
                        return (long) no(1);
                    }
                }
                for (int i = 0; i < patch.halves.size(); i++) {
                    if (patch.holds(i, Arrays.copyOf(n, 4))) {
                        return (long) yes(i);
                    }
                }
                return (long) no(5);
            case "ahead": return (long) (out(n[1], patch.level) ? no(1) : noHalf(n[0]) ? no(2) : yes(ahead(n[0], n[1])));
            case "grown": return out(n[1], 1) || out(n[2], 40) ? no(1) : noHalf(n[0]) ? no(2) : grown(n[0], n[1], n[2]);
            case "area": return (long) (out(n[0], 1) ? no(1) : yes(many(3 + n[0])));
            case "nearer":
                return (long) (noHalf(n[0], n[1], n[2], n[3]) ? no(2)
                    : yes(far(n[0], n[1]) < far(n[2], n[3]) - PatchModel.TINY ? 1 : 0));
            case "square":
                return (long) (out(n[2], 1) ? no(1) : noHalf(n[0], n[1]) ? no(2) : yes(square(n[0], n[1])[n[2]]));
            case "drawn":
                return (long) (out(n[1], 2) || out(n[2], 1) ? no(1) : noHalf(n[0]) ? no(2)
                    : yes(drawn(patch.halves.get(n[0]).corners()[n[1]], n[2])));
            default: return rowCall(name, n);
        }
    }

    private int many(int what) {
        int thick = 0;
        int paired = 0;
        int inner = 0;
        for (int i = 0; i < patch.halves.size(); i++) {
            thick += patch.halves.get(i).kind();
            paired += patch.twin(i) >= 0 ? 1 : 0;
        }
        for (String point : patch.points()) {
            inner += patch.tenths(point) == 10 ? 1 : 0;
        }
        int all = patch.halves.size();
        int[] answers = {patch.start, patch.level, all, all - thick, thick, paired / 2, patch.points().size(), inner,
            patch.legTexts().size(), patch.sharedLegs(true), patch.sharedLegs(false), all - paired,
            patch.atlas().size(), table.rhombs.size(), table.points().size()};
        return answers[what];
    }

    private int half(int i, int what) {
        PatchModel.Half half = patch.halves.get(i);
        switch (what) {
            case 0: return half.kind();
            case 1: return half.address();
            case 2: return half.mother();
            case 3: return half.digit();
            case 4: return patch.twin(i);
            case 5: return patch.other(i, 0);
            default: return patch.other(i, 1);
        }
    }

    private int ahead(int i, int n) {
        int at = i;
        for (int up = 0; up < n; up++) {
            at = made(patch.start, patch.level - up).halves.get(at).mother();
        }
        return at;
    }

    /** By whole numbers of any size, through the matrix n times. */
    private long grown(int i, int kind, int n) {
        BigInteger[] counts = {BigInteger.ZERO, BigInteger.ZERO};
        counts[patch.halves.get(i).kind()] = BigInteger.ONE;
        for (int cut = 0; cut < n; cut++) {
            counts = new BigInteger[] {counts[0].add(counts[1]), counts[0].add(counts[1]).add(counts[1])};
        }
        status = 0;
        return counts[kind].longValueExact();
    }

    private int[] apart(int i, int j) {
        return PatchModel.minus(patch.halves.get(i).corners()[0], patch.halves.get(j).corners()[0]);
    }

    private double far(int i, int j) {
        int[] v = apart(i, j);
        return PatchModel.x(v) * PatchModel.x(v) + PatchModel.y(v) * PatchModel.y(v);
    }

    /** v times its mirror image, in the ring, is a whole number and so many times GOLD. */
    private int[] square(int i, int j) {
        int[] v = apart(i, j);
        int[] mirror = new int[4];
        for (int n = 0; n < 4; n++) {
            for (int m = 0; m < 4; m++) {
                mirror[m] += v[n] * PatchModel.step(10 - n)[m];
            }
        }
        int[] product = PatchModel.times(v, mirror);
        return new int[] {2 * (product[0] - product[2]), 2 * product[2]};
    }

    private static int drawn(int[] c, int what) {
        double x = (double) c[0] + c[1] * 0.809016994375 + c[2] * 0.309016994375 - c[3] * 0.309016994375;
        double y = c[1] * 0.587785252292 + c[2] * 0.951056516295 + c[3] * 0.951056516295;
        return Float.floatToRawIntBits((float) (what == 0 ? x : y));
    }

    private Long rowCall(String name, int[] n) {
        switch (name) {
            case "row":
                if (out(n[0], 1)) {
                    return (long) no(1);
                }
                int had = row.size();
                row = new ArrayList<>();
                rowKind = n[0];
                return (long) yes(had);
            case "pick":
                if (noHalf(n[0])) {
                    return (long) no(2);
                }
                if (row.size() == 12) {
                    return (long) no(3);
                }
                if (rowKind < 0) {
                    return (long) no(5);
                }
                if (patch.halves.get(n[0]).kind() != rowKind) {
                    return (long) no(6);
                }
                row.add(patch.halves.get(n[0]).corners()[0]);
                return (long) yes(row.size());
            case "putBy":
                if (rowKind < 0) {
                    return (long) no(5);
                }
                shelf = new ArrayList<>(row);
                return (long) yes(row.size());
            case "picked":
                List<int[]> asked = n[0] == 0 ? row : shelf;
                return (long) (out(n[0], 1) || n[1] < 0 || out(n[2], 3) ? no(1) : n[1] >= asked.size() ? no(5)
                    : yes(asked.get(n[1])[n[2]]));
            case "common":
                if (noHalf(n[0], n[1])) {
                    return (long) no(2);
                }
                for (int up = 0; up <= patch.level; up++) {
                    if (ahead(n[0], up) == ahead(n[1], up)) {
                        return (long) yes(patch.level - up);
                    }
                }
                return (long) no(5);
            default: return null;
        }
    }

    private Long sidesCall(String name, int[] n) {
        switch (name) {
            case "steps": return (long) (noHalf(n[0], n[1]) ? no(2) : yes(patch.distances(n[0])[n[1]]));
            case "around":
                if (out(n[1], 40) || noHalf(n[0])) {
                    return (long) no(out(n[1], 40) ? 1 : 2);
                }
                int near = 0;
                for (int far : patch.distances(n[0])) {
                    near += far >= 0 && far <= n[1] ? 1 : 0;
                }
                return (long) yes(near);
            case "ribbon":
                if (out(n[1], 1) || out(n[2], 1) || noHalf(n[0])) {
                    return (long) no(out(n[1], 1) || out(n[2], 1) ? 1 : 2);
                }
                if (patch.twin(n[0]) < 0) {
                    return (long) no(5);
                }
                return (long) yes(n[2] == 0 ? patch.ribbon(n[0], n[1]).size() / 2 : patch.ribbon(n[0], n[1]).first());
            case "like": return (long) (out(n[0], 9) ? no(1) : yes(patch.like(n[0], n[1] == 1) ? 1 : 0));
            case "legs": return (long) (out(n[0], 4) ? no(1) : yes(patch.legsLeading(n[0])));
            case "border": return (long) (out(n[0], 1) ? no(1) : yes(patch.alone(n[0] == 0)));
            case "tenths":
            case "figure":
                if (out(n[1], 2) || noHalf(n[0])) {
                    return (long) no(out(n[1], 2) ? 1 : 2);
                }
                String point = Arrays.toString(patch.halves.get(n[0]).corners()[n[1]]);
                if (name.equals("tenths")) {
                    return (long) yes(patch.tenths(point));
                }
                return (long) (patch.figure(point) < 0 ? no(5) : yes(patch.figure(point)));
            case "atlas":
                List<Integer> all = new ArrayList<>(patch.atlas());
                return (long) (n[0] < 0 ? no(1) : n[0] >= all.size() ? no(5) : yes(all.get(n[0])));
            case "having": return (long) (n[0] < 0 ? no(1) : yes(patch.having(n[0])));
            case "comes":
                if (out(n[0], 3) || n[1] < 0) {
                    return (long) no(1);
                }
                for (int level = 0; level <= 5; level++) {
                    if (made(n[0], level).atlas().contains(n[1])) {
                        return (long) yes(level);
                    }
                }
                return (long) no(5);
            default: return null;
        }
    }

    private Long tableCall(String name, int[] n) {
        boolean noRhomb = n[0] < 0 || n[0] >= table.rhombs.size();
        boolean noPoint = n[0] < 0 || n[0] >= table.points().size();
        switch (name) {
            case "lay":
                boolean wrong = out(n[0], 1) || out(n[5], 9) || out(n[6], 1);
                for (int k = 1; k < 5; k++) {
                    wrong |= n[k] < -999 || n[k] > 999;
                }
                return (long) (wrong ? no(1) : lay(n[0], new int[] {n[1], n[2], n[3], n[4]}, n[5], n[6]));
            case "borrow":
                return (long) (noHalf(n[0]) ? no(2) : table.rhombs.size() == 24 ? no(3) : patch.twin(n[0]) < 0 ? no(5) : borrow(n[0]));
            case "take":
                if (noRhomb) {
                    return (long) no(2);
                }
                table.rhombs.remove(n[0]);
                return (long) yes(table.rhombs.size());
            case "clear":
                int had = table.rhombs.size();
                table.rhombs.clear();
                return (long) yes(had);
            case "rhomb":
                if (out(n[1], 2) || noRhomb) {
                    return (long) no(out(n[1], 2) ? 1 : 2);
                }
                TableModel.Rhomb rhomb = table.rhombs.get(n[0]);
                return (long) yes(n[1] == 0 ? rhomb.kind() : n[1] == 1 ? rhomb.d() : rhomb.hand());
            case "spot":
                return (long) (out(n[1], 3) || out(n[2], 3) ? no(1) : noRhomb ? no(2)
                    : yes(table.rhombs.get(n[0]).corners()[n[1]][n[2]]));
            case "pointOf":
                return (long) (out(n[1], 3) ? no(1) : noRhomb ? no(2) : yes(pointOf(n[0], n[1])));
            case "taken": return (long) (noPoint ? no(2) : yes(table.takenCount(table.points().get(n[0]))));
            case "gaps": return (long) (out(n[1], 1) ? no(1) : noPoint ? no(2) : yes(gaps(n[0], n[1])));
            case "ways": return (long) (noPoint ? no(2) : yes(table.ways(table.points().get(n[0]))));
            case "holes":
                if (out(n[0], 4)) {
                    return (long) no(1);
                }
                if (n[0] < 3) {
                    return (long) yes(table.count(n[0]));
                }
                return (long) (table.first(n[0] - 2) < 0 ? no(5) : yes(table.first(n[0] - 2)));
            case "force":
                if (n[0] < 1 || n[0] > 24) {
                    return (long) no(1);
                }
                int[] forced = table.force(n[0]);
                status = forced[1];
                return (long) forced[0];
            case "meeting": return (long) (noRhomb ? no(2) : yes(table.shared(n[0])));
            case "open":
                int alone = 0;
                for (int k = 0; k < table.rhombs.size(); k++) {
                    alone += 4 - table.shared(k);
                }
                return (long) yes(alone);
            default: return null;
        }
    }

    private int lay(int kind, int[] a, int d, int hand) {
        int why = table.lay(TableModel.Rhomb.of(kind, a, d, hand));
        return why == 0 ? yes(table.rhombs.size() - 1) : no(why);
    }

    private int borrow(int i) {
        PatchModel.Half half = patch.halves.get(Math.min(i, patch.twin(i)));
        for (int d = 0; d < 10; d++) {
            for (int hand = 0; hand < 2; hand++) {
                int[][] c = TableModel.Rhomb.of(half.kind(), half.corners()[0], d, hand).corners();
                if (Arrays.equals(c[1], half.corners()[1]) && Arrays.equals(c[3], half.corners()[2])) {
                    return lay(half.kind(), half.corners()[0], d, hand);
                }
            }
        }
        throw new IllegalStateException("a half that is no half");
    }

    private int pointOf(int k, int corner) {
        List<int[]> points = table.points();
        for (int n = 0; n < points.size(); n++) {
            if (Arrays.equals(points.get(n), table.rhombs.get(k).corners()[corner])) {
                return n;
            }
        }
        return -1;
    }

    private int gaps(int point, int what) {
        int widest = 0;
        List<int[]> gaps = table.gaps(table.points().get(point));
        for (int[] gap : gaps) {
            widest = Math.max(widest, gap[1]);
        }
        return what == 0 ? gaps.size() : widest;
    }

    private Long tapeCall(String name, int[] n) {
        switch (name) {
            case "feed":
                if (tape.length + 20 > 900) {
                    return -1L;
                }
                int had = tape.length;
                tape = Arrays.copyOf(tape, had + 20);
                for (int k = 0; k < 20; k++) {
                    tape[had + k] = (byte) (n[k / 4] >>> (24 - k % 4 * 8));
                }
                return (long) tape.length;
            case "load":
                if (out(n[0], tape.length)) {
                    return (long) no(1);
                }
                String text = new String(tape, 0, n[0], StandardCharsets.ISO_8859_1);
                tape = new byte[0];
                return (long) (table.read(text) ? yes(table.rhombs.size()) : no(9));
            case "fault": return (long) (n[0] == 0 ? table.faultKind : n[0] == 1 ? table.faultPlace : -1);
            case "print":
                out = table.text();
                return (long) yes(out.length());
            case "out": return (long) (n[0] < 0 ? no(1) : n[0] >= out.length() ? no(5) : yes(out.charAt(n[0])));
            case "covered":
                int found = 0;
                for (TableModel.Rhomb rhomb : table.rhombs) {
                    found += rhomb.kind() == n[0] ? 2 : 0;
                }
                return (long) (out(n[0], 1) ? no(1) : yes(found));
            default: return null;
        }
    }
}

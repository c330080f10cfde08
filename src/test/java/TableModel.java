import java.util.ArrayList;
import java.util.Arrays;
import java.util.LinkedHashMap;
import java.util.List;
import java.util.Map;
import java.util.regex.Matcher;
import java.util.regex.Pattern;

/** The table in the document's own words, with geometry in doubles: what the class is held against. */
final class TableModel {
    /** A rhomb with its corners A, B, the other A, C. */
    record Rhomb(int kind, int[] a, int d, int hand, int[][] corners) {
        static Rhomb of(int kind, int[] a, int d, int hand) {
            int w = kind == 0 ? 1 : 3;
            int[] b = PatchModel.plus(a, PatchModel.step(d));
            int[] c = PatchModel.plus(a, PatchModel.step(hand == 0 ? d + w : d - w));
            return new Rhomb(kind, a, d, hand, new int[][] {a, b, PatchModel.minus(PatchModel.plus(b, c), a), c});
        }

        /** Edges with what is on them: by both halves, A B C and the other A, B, C. */
        Map<String, String> edges() {
            Map<String, String> all = new LinkedHashMap<>();
            for (int half = 0; half <= 2; half += 2) {
                String from = Arrays.toString(corners[half]);
                String b = Arrays.toString(corners[1]);
                String c = Arrays.toString(corners[3]);
                all.put(PatchModel.segment(corners[half], corners[1]), kind == 0 ? "0 " + from + ">" + b : "0 " + b + ">" + from);
                all.put(PatchModel.segment(corners[half], corners[3]), "1 " + from + ">" + c);
            }
            return all;
        }
    }

    final List<Rhomb> rhombs = new ArrayList<>();
    int faultKind = -1;
    int faultPlace = -1;

    int lay(Rhomb rhomb) {
        if (rhombs.size() >= 24) {
            return 3;
        }
        for (Rhomb there : rhombs) {
            if (commonArea(there, rhomb) > 1e-6 || within(there, rhomb) || within(rhomb, there)) {
                return 6;
            }
        }
        for (Rhomb there : rhombs) {
            Map<String, String> edges = there.edges();
            for (Map.Entry<String, String> edge : rhomb.edges().entrySet()) {
                if (edges.containsKey(edge.getKey()) && !edges.get(edge.getKey()).equals(edge.getValue())) {
                    return 7;
                }
            }
        }
        rhombs.add(rhomb);
        return 0;
    }

    private static List<double[]> polygon(Rhomb rhomb) {
        List<double[]> all = new ArrayList<>();
        for (int n = 0; n < 4; n++) {
            int[] corner = rhomb.corners()[rhomb.hand() == 0 ? n : 3 - n];
            all.add(new double[] {PatchModel.x(corner), PatchModel.y(corner)});
        }
        return all;
    }

    /** The area of what two rhombs have in common, one cut off along each side of the other. */
    private static double commonArea(Rhomb one, Rhomb two) {
        List<double[]> left = polygon(one);
        List<double[]> by = polygon(two);
        for (int e = 0; e < 4; e++) {
            double[] from = by.get(e);
            double[] to = by.get((e + 1) % 4);
            List<double[]> kept = new ArrayList<>();
            for (int n = 0; n < left.size(); n++) {
                double[] p = left.get(n);
                double[] q = left.get((n + 1) % left.size());
                double sp = (to[0] - from[0]) * (p[1] - from[1]) - (to[1] - from[1]) * (p[0] - from[0]);
                double sq = (to[0] - from[0]) * (q[1] - from[1]) - (to[1] - from[1]) * (q[0] - from[0]);
                if (sp >= 0) {
                    kept.add(p);
                }
                if (sp * sq < 0) {
                    double t = sp / (sp - sq);
                    kept.add(new double[] {p[0] + t * (q[0] - p[0]), p[1] + t * (q[1] - p[1])});
                }
            }
            left = kept;
        }
        double area = 0;
        for (int n = 0; n < left.size(); n++) {
            double[] p = left.get(n);
            double[] q = left.get((n + 1) % left.size());
            area += (p[0] * q[1] - p[1] * q[0]) / 2;
        }
        return area;
    }

    private static double apart(int[] a, int[] b) {
        return Math.hypot(PatchModel.x(a) - PatchModel.x(b), PatchModel.y(a) - PatchModel.y(b));
    }

    private static boolean within(Rhomb edges, Rhomb corners) {
        for (int e = 0; e < 4; e++) {
            int[] from = edges.corners()[e];
            int[] to = edges.corners()[(e + 1) % 4];
            for (int[] corner : corners.corners()) {
                boolean end = Arrays.equals(corner, from) || Arrays.equals(corner, to);
                if (!end && apart(from, corner) + apart(corner, to) < 1 + 1e-11 * 1000) {
                    return true;
                }
            }
        }
        return false;
    }

    List<int[]> points() {
        Map<String, int[]> all = new LinkedHashMap<>();
        for (Rhomb rhomb : rhombs) {
            for (int[] corner : rhomb.corners()) {
                all.putIfAbsent(Arrays.toString(corner), corner);
            }
        }
        return new ArrayList<>(all.values());
    }

    /** Which tenths round a point are taken, by points that lie near it in their middles. */
    boolean[] taken(int[] point) {
        boolean[] full = new boolean[10];
        for (int d = 0; d < 10; d++) {
            double px = PatchModel.x(point) + 0.1 * Math.cos(Math.PI * (d + 0.5) / 5);
            double py = PatchModel.y(point) + 0.1 * Math.sin(Math.PI * (d + 0.5) / 5);
            for (Rhomb rhomb : rhombs) {
                List<double[]> by = polygon(rhomb);
                boolean inside = cornerAt(rhomb, point) >= 0;
                for (int e = 0; e < 4; e++) {
                    double[] from = by.get(e);
                    double[] to = by.get((e + 1) % 4);
                    inside &= (to[0] - from[0]) * (py - from[1]) - (to[1] - from[1]) * (px - from[0]) > 0;
                }
                full[d] |= inside;
            }
        }
        return full;
    }

    int takenCount(int[] point) {
        int sum = 0;
        for (boolean full : taken(point)) {
            sum += full ? 1 : 0;
        }
        return sum;
    }

    /** Gaps of a point: begin and width of each, by begins. */
    List<int[]> gaps(int[] point) {
        boolean[] full = taken(point);
        List<int[]> all = new ArrayList<>();
        for (int d = 0; d < 10; d++) {
            if (!full[d] && full[(d + 9) % 10]) {
                int width = 0;
                while (!full[(d + width) % 10]) {
                    width++;
                }
                all.add(new int[] {d, width});
            }
        }
        return all;
    }

    /** What is on the edge that leads from a point in a direction; null if no rhomb has it. */
    private String edgeAt(int[] point, int d) {
        String text = PatchModel.segment(point, PatchModel.plus(point, PatchModel.step(d)));
        for (Rhomb rhomb : rhombs) {
            if (rhomb.edges().containsKey(text)) {
                return rhomb.edges().get(text);
            }
        }
        return null;
    }

    /** All rhombs with a corner at a point whose sector begins in a direction, one for each that differs. */
    static List<Rhomb> beginning(int[] point, int d) {
        Map<String, Rhomb> all = new LinkedHashMap<>();
        int[] along = PatchModel.plus(point, PatchModel.step(d));
        for (int kind = 0; kind < 2; kind++) {
            for (int turn = 0; turn < 10; turn++) {
                for (int hand = 0; hand < 2; hand++) {
                    for (int[] a : new int[][] {point, along}) {
                        Rhomb rhomb = Rhomb.of(kind, a, turn, hand);
                        if (beginsAt(rhomb, point, d)) {
                            all.putIfAbsent(new java.util.TreeMap<>(rhomb.edges()).toString(), rhomb);
                        }
                    }
                }
            }
        }
        return new ArrayList<>(all.values());
    }

    private static int cornerAt(Rhomb rhomb, int[] point) {
        for (int corner = 0; corner < 4; corner++) {
            if (Arrays.equals(rhomb.corners()[corner], point)) {
                return corner;
            }
        }
        return -1;
    }

    private static boolean beginsAt(Rhomb rhomb, int[] point, int d) {
        int corner = cornerAt(rhomb, point);
        if (corner < 0) {
            return false;
        }
        int[] one = rhomb.corners()[(corner + 1) % 4];
        int[] two = rhomb.corners()[(corner + 3) % 4];
        int[] begin = PatchModel.turn(point, one, two) > 0 ? one : two;
        return Arrays.equals(begin, PatchModel.plus(point, PatchModel.step(d)));
    }

    static int width(Rhomb rhomb, int[] point) {
        int w = rhomb.kind() == 0 ? 1 : 3;
        return cornerAt(rhomb, point) % 2 == 0 ? w : 5 - w;
    }

    private static String edgeOf(Rhomb rhomb, int[] point, int d) {
        return rhomb.edges().get(PatchModel.segment(point, PatchModel.plus(point, PatchModel.step(d))));
    }

    /** The first rhombs of all ways to fill a gap, one for each way. */
    List<Rhomb> fillings(int[] point, int[] gap) {
        String begin = edgeAt(point, gap[0]);
        String end = edgeAt(point, gap[0] + gap[1]);
        return fillings(point, gap[0], gap[1], begin, end);
    }

    private List<Rhomb> fillings(int[] point, int d, int left, String edge, String end) {
        List<Rhomb> all = new ArrayList<>();
        for (Rhomb rhomb : beginning(point, d)) {
            int width = width(rhomb, point);
            String last = edgeOf(rhomb, point, d + width);
            if (width <= left && edgeOf(rhomb, point, d).equals(edge)) {
                int ways = width == left ? (last.equals(end) ? 1 : 0)
                    : fillings(point, d + width, left - width, last, end).size();
                for (int n = 0; n < ways; n++) {
                    all.add(rhomb);
                }
            }
        }
        return all;
    }

    int ways(int[] point) {
        int product = 1;
        for (int[] gap : gaps(point)) {
            product *= fillings(point, gap).size();
        }
        return product;
    }

    /** 0 all taken, 1 forced, 2 dead, 3 else. */
    int state(int[] point) {
        int ways = ways(point);
        return takenCount(point) == 10 ? 0 : ways == 0 ? 2 : ways == 1 ? 1 : 3;
    }

    int first(int state) {
        List<int[]> points = points();
        for (int n = 0; n < points.size(); n++) {
            if (state(points.get(n)) == state) {
                return n;
            }
        }
        return -1;
    }

    int count(int state) {
        int found = 0;
        for (int[] point : points()) {
            found += state(point) == state ? 1 : 0;
        }
        return found;
    }

    /** How many were laid, and the status. */
    int[] force(int n) {
        for (int laid = 0; laid < n; laid++) {
            if (first(2) >= 0) {
                return new int[] {-1, 8};
            }
            if (first(1) < 0) {
                return new int[] {laid, 0};
            }
            if (rhombs.size() == 24) {
                return new int[] {-1, 3};
            }
            int[] point = points().get(first(1));
            int[] gap = gaps(point).get(0);
            Rhomb found = asLaid(fillings(point, gap).get(0), point, gap[0]);
            for (int number : found.a()) {
                if (number < -999 || number > 999) {
                    return new int[] {-1, 8};
                }
            }
            if (lay(found) != 0) {
                return new int[] {-1, 8};
            }
        }
        return new int[] {n, 0};
    }

    /** The same rhomb, told from the A that is meant: the point itself, or the first against the clock. */
    private static Rhomb asLaid(Rhomb rhomb, int[] point, int d) {
        boolean atA = cornerAt(rhomb, point) % 2 == 0;
        int[] a = atA ? point : PatchModel.plus(point, PatchModel.step(d));
        for (int turn = 0; turn < 10; turn++) {
            for (int hand = 0; hand < 2; hand++) {
                Rhomb told = Rhomb.of(rhomb.kind(), a, turn, hand);
                if (told.edges().equals(rhomb.edges())) {
                    return told;
                }
            }
        }
        throw new IllegalStateException("no such rhomb");
    }

    int shared(int k) {
        int found = 0;
        for (String edge : rhombs.get(k).edges().keySet()) {
            boolean other = false;
            for (int j = 0; j < rhombs.size(); j++) {
                other |= j != k && rhombs.get(j).edges().containsKey(edge);
            }
            found += other ? 1 : 0;
        }
        return found;
    }

    String text() {
        StringBuilder text = new StringBuilder();
        for (Rhomb rhomb : rhombs) {
            text.append(rhomb.kind() == 0 ? "thin" : "thick");
            for (int number : rhomb.a()) {
                text.append(number < 0 ? " - " + -number : " " + number);
            }
            text.append(" turn ").append(rhomb.d()).append(" hand ").append(rhomb.hand()).append(';');
        }
        return text.toString();
    }

    /** Reads a text by tokens told from a pattern; true if it has no fault. */
    boolean read(String text) {
        Matcher tokens = Pattern.compile("[a-z]+|[0-9]+|.", Pattern.DOTALL).matcher(text);
        List<String> words = new ArrayList<>();
        List<Integer> places = new ArrayList<>();
        while (tokens.find()) {
            if (!tokens.group().equals(" ") && !tokens.group().equals("\n")) {
                words.add(tokens.group());
                places.add(tokens.start());
            }
        }
        words.add("");
        places.add(text.length());
        TableModel fresh = new TableModel();
        int at = 0;
        while (!words.get(at).isEmpty()) {
            int begin = places.get(at);
            List<Integer> numbers = new ArrayList<>();
            int kind = words.get(at).equals("thick") ? 1 : 0;
            for (String part : "kind number number number number turn d hand h ;".split(" ")) {
                if (part.equals("number") && words.get(at).equals("-")) {
                    at++;
                    numbers.add(-1);
                } else if (part.equals("number")) {
                    numbers.add(1);
                }
                String word = words.get(at);
                if (word.matches("[0-9]{4,}") || !word.isEmpty() && !word.matches("[a-z]+|[0-9]+|[-;]")) {
                    return fail(1, places.get(at));
                }
                if (!fits(part, word)) {
                    return fail(2, places.get(at));
                }
                if (part.equals("number")) {
                    numbers.set(numbers.size() - 1, numbers.get(numbers.size() - 1) * Integer.parseInt(word));
                } else if (part.equals("d") || part.equals("h")) {
                    numbers.add(Integer.parseInt(word));
                    if (Integer.parseInt(word) > (part.equals("d") ? 9 : 1)) {
                        return fail(3, places.get(at));
                    }
                } else if (part.equals("kind") && fresh.rhombs.size() == 24) {
                    return fail(4, begin);
                }
                at++;
            }
            int[] a = {numbers.get(0), numbers.get(1), numbers.get(2), numbers.get(3)};
            int why = fresh.lay(Rhomb.of(kind, a, numbers.get(4), numbers.get(5)));
            if (why != 0) {
                return fail(why, begin);
            }
        }
        rhombs.clear();
        rhombs.addAll(fresh.rhombs);
        faultKind = 0;
        faultPlace = -1;
        return true;
    }

    private static boolean fits(String part, String word) {
        switch (part) {
            case "kind": return word.equals("thin") || word.equals("thick");
            case "number": case "d": case "h": return word.matches("[0-9]+");
            default: return word.equals(part);
        }
    }

    private boolean fail(int kind, int place) {
        faultKind = kind;
        faultPlace = place;
        return false;
    }
}

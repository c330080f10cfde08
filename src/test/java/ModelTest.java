import java.lang.reflect.Method;
import java.util.ArrayList;
import java.util.Arrays;
import java.util.Comparator;
import java.util.List;
import java.util.Random;

/** Many runs of calls, the same ones every time, each answer and status held against the models. */
public final class ModelTest {
    private static final int[] ODD = {-1, -2, 0, 1, 2, 3, 5, 7, 9, 10, 24, 25, 40, 41, 999, 1000, 9999, 10000,
        Integer.MAX_VALUE, Integer.MIN_VALUE};

    private final Random random;
    private final List<Method> calls = new ArrayList<>();
    private int deepest;
    private RhombInflator object;
    private Model model;
    private List<String> told = new ArrayList<>();

    ModelTest(long seed) {
        random = new Random(seed);
        for (Method method : RhombInflator.class.getDeclaredMethods()) {
            if (java.lang.reflect.Modifier.isPublic(method.getModifiers())) {
                calls.add(method);
            }
        }
        calls.sort(Comparator.comparing(Method::getName));
    }

    public static void main(String[] args) throws Exception {
        int runs = args.length > 0 ? Integer.parseInt(args[0]) : 60;
        int seed = args.length > 1 ? Integer.parseInt(args[1]) : 1;
        int wrong = 0;
        for (int run = 0; run < runs && wrong < 5; run++) {
            wrong += new ModelTest(seed * 1000003L + run).run(run) ? 0 : 1;
        }
        System.out.println("ModelTest: " + runs + " runs, " + wrong + " wrong");
        if (wrong != 0) {
            System.exit(1);
        }
    }

    private boolean run(int number) throws Exception {
        object = new RhombInflator();
        model = new Model();
        deepest = number % 12 == 0 ? 5 : 1 + number % 4;
        for (int n = 0; n < 512; n++) {
            boolean fine = random.nextInt(25) == 0 ? readText() : ask(pickCall(), null);
            if (!fine) {
                System.out.println("run " + number + ", call " + n + ": the last of");
                for (String line : told.subList(Math.max(0, told.size() - 30), told.size())) {
                    System.out.println("  " + line);
                }
                return false;
            }
        }
        return true;
    }

    private Method pickCall() {
        Method method = calls.get(random.nextInt(calls.size()));
        String name = method.getName();
        if (name.equals("level") && model.patch.level >= deepest && random.nextInt(6) != 0) {
            return named("pick");
        }
        boolean moves = name.equals("clear") || name.equals("load") || name.equals("start") || name.equals("row") || name.equals("take");
        return moves && random.nextInt(5) != 0 ? named(random.nextBoolean() ? "borrow" : "lay") : method;
    }

    private Method named(String name) {
        for (Method method : calls) {
            if (method.getName().equals(name)) {
                return method;
            }
        }
        throw new IllegalStateException(name);
    }

    private boolean ask(Method method, Object[] fixed) throws Exception {
        Object[] given = fixed != null ? fixed : arguments(method);
        long got = ((Number) method.invoke(object, given)).longValue();
        long want = model.call(method.getName(), given);
        told.add(method.getName() + Arrays.toString(given) + " answered " + got + " (" + object.status() + "), due is "
            + want + " (" + model.status() + ")");
        return got == want && object.status() == model.status();
    }

    private int odd() {
        return ODD[random.nextInt(ODD.length)];
    }

    private Object[] arguments(Method method) {
        Class<?>[] types = method.getParameterTypes();
        Object[] given = new Object[types.length];
        for (int k = 0; k < types.length; k++) {
            if (types[k] == boolean.class) {
                given[k] = random.nextBoolean();
            } else {
                given[k] = random.nextInt(25) == 0 ? odd() : usual(method.getName(), k);
            }
        }
        if (method.getName().equals("lay") && !model.table.rhombs.isEmpty() && random.nextInt(8) != 0) {
            List<int[]> points = model.table.points();
            int[] point = points.get(random.nextInt(points.size()));
            if (random.nextBoolean()) {
                point = PatchModel.plus(point, PatchModel.step(random.nextInt(10)));
            }
            for (int k = 0; k < 4; k++) {
                given[k + 1] = point[k];
            }
        }
        return given;
    }

    /** A number that is mostly one that can be, by the call and by which of its numbers it is. */
    private int usual(String name, int k) {
        int halves = model.patch.halves.size();
        String one = " half corner ahead grown drawn pick around ribbon tenths figure borrow ";
        boolean half = one.contains(" " + name + " ") && k == 0
            || (name.equals("square") || name.equals("common") || name.equals("steps")) && k < 2 || name.equals("nearer");
        if (half) {
            return random.nextInt(halves + 1);
        }
        switch (name) {
            case "start": return random.nextInt(4);
            case "level": return random.nextInt(deepest + 1);
            case "many": return random.nextInt(16);
            case "leads": return random.nextInt(4) == 0 ? random.nextInt(3000)
                : model.patch.halves.get(random.nextInt(halves)).address();
            case "locate": return random.nextInt(9) - 4;
            case "picked": return k == 1 ? random.nextInt(6) : random.nextInt(k == 0 ? 2 : 4);
            case "like": return random.nextInt(10);
            case "atlas": return random.nextInt(9);
            case "having":
            case "comes": return name.equals("comes") && k == 0 ? random.nextInt(4) : someFigure();
            case "grown": return k == 1 ? random.nextInt(2) : random.nextInt(41);
            case "lay": return k == 0 || k == 6 ? random.nextInt(2) : k == 5 ? random.nextInt(10) : random.nextInt(5) - 2;
            case "take": case "rhomb": case "spot": case "pointOf": case "meeting":
                return k == 0 ? random.nextInt(model.table.rhombs.size() + 1) : random.nextInt(4);
            case "taken": case "gaps": case "ways":
                return k == 0 ? random.nextInt(model.table.points().size() + 1) : random.nextInt(2);
            case "force": return 1 + random.nextInt(4) * random.nextInt(8);
            case "row": case "area": case "border": case "covered": return random.nextInt(2);
            case "ribbon": case "square": case "drawn": return random.nextInt(k == 1 && name.equals("drawn") ? 3 : 2);
            case "corner": case "tenths": case "figure": return random.nextInt(k == 1 ? 3 : 4);
            case "half": return random.nextInt(7);
            case "ahead": return random.nextInt(model.patch.level + 2);
            case "out": return random.nextInt(200);
            case "load": return random.nextInt(20);
            case "fault": return random.nextInt(3);
            default: return random.nextInt(5);
        }
    }

    private int someFigure() {
        List<Integer> all = new ArrayList<>(Model.made(random.nextInt(4), random.nextInt(5)).atlas());
        return all.isEmpty() ? random.nextInt(20000) : all.get(random.nextInt(all.size()));
    }

    // ---- texts

    private boolean readText() throws Exception {
        String text = random.nextInt(4) == 0 ? madeText() : model.table.text();
        if (random.nextInt(3) != 0) {
            text = spoiled(text);
        }
        if (text.length() > 880) {
            text = text.substring(0, 880);
        }
        int extra = random.nextInt(12) == 0 ? 1 : 0;
        if (model.tapeLength() > 0 && !ask(named("load"), new Object[] {model.tapeLength()})) {
            return false;
        }
        int fed = 0;
        for (int at = 0; at < text.length(); at += 20) {
            Object[] given = new Object[5];
            for (int k = 0; k < 5; k++) {
                int four = 0;
                for (int n = 0; n < 4; n++) {
                    int place = at + 4 * k + n;
                    four = four << 8 | (place < text.length() ? text.charAt(place) : random.nextInt(256));
                }
                given[k] = four;
            }
            if (!ask(named("feed"), given)) {
                return false;
            }
            fed += 20;
        }
        return ask(named("load"), new Object[] {extra == 0 ? text.length() : fed})
            && ask(named("fault"), new Object[] {0}) && ask(named("fault"), new Object[] {1});
    }

    private String madeText() {
        StringBuilder text = new StringBuilder();
        int lines = random.nextInt(28);
        for (int n = 0; n < lines; n++) {
            text.append(random.nextBoolean() ? "thin" : "thick");
            text.append(n * 3).append(" 0-").append(random.nextInt(3)).append(" 00").append(random.nextInt(3));
            text.append("turn").append(random.nextInt(10)).append("hand").append(random.nextInt(2)).append(";\n");
        }
        return text.toString();
    }

    private String spoiled(String text) {
        String[] bits = {" ", "\n", "-", ";", "thin", "thick", "turn", "hand", "0", "1", "12", "999", "1000", "010", "x",
            "T", "\t", "\u00e9", "", "thin 0 0 0 0 turn 0 hand 0;", "thick 5 0 0 0 turn 3 hand 1;"};
        StringBuilder made = new StringBuilder(text);
        int times = 1 + random.nextInt(3);
        for (int n = 0; n < times; n++) {
            int at = random.nextInt(made.length() + 1);
            int upTo = Math.min(made.length(), at + random.nextInt(4));
            made.replace(at, upTo, bits[random.nextInt(bits.length)]);
        }
        return made.toString();
    }
}

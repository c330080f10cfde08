import java.util.Random;

/** Every half of every patch, asked for all that a half can be asked for, against the model. */
public final class WholePatchTest {
    private final Check check = new Check();
    private final Model model = new Model();
    private final Random random = new Random(5);
    private int start;
    private int level;
    private RhombInflator object;
    private int used;

    public static void main(String[] args) throws Exception {
        WholePatchTest test = new WholePatchTest();
        for (int start = 0; start < 4; start++) {
            for (int level = 0; level <= 5; level++) {
                test.look(start, level);
            }
        }
        test.check.end("WholePatchTest");
    }

    private void look(int newStart, int newLevel) throws Exception {
        start = newStart;
        level = newLevel;
        model.call("start", new Object[] {start});
        model.call("level", new Object[] {level});
        used = 1000;
        for (int what = 0; what <= 14; what++) {
            ask("many", what);
        }
        for (int k = 0; k < 10; k++) {
            ask("like", k, false);
            ask("like", k, true);
            ask("atlas", k);
            ask("legs", k % 5);
            ask("border", k % 2);
            ask("area", k % 2);
        }
        for (int figure : model.patch.atlas()) {
            ask("having", figure);
        }
        int count = model.patch.halves.size();
        for (int i = 0; i < count; i++) {
            lookAtHalf(i);
            lookAtPairs(i, count);
        }
    }

    private void lookAtHalf(int i) throws Exception {
        for (int what = 0; what <= 6; what++) {
            ask("half", i, what);
        }
        ask("leads", model.patch.halves.get(i).address());
        for (int corner = 0; corner < 3; corner++) {
            for (int which = 0; which < 4; which++) {
                ask("corner", i, corner, which);
            }
            ask("drawn", i, corner, 0);
            ask("drawn", i, corner, 1);
            ask("tenths", i, corner);
            ask("figure", i, corner);
        }
        for (int n = 0; n <= level; n++) {
            ask("ahead", i, n);
        }
        for (int leg = 0; leg < 2; leg++) {
            ask("ribbon", i, leg, 0);
            ask("ribbon", i, leg, 1);
        }
    }

    private void lookAtPairs(int i, int count) throws Exception {
        int j = random.nextInt(count);
        ask("common", i, j);
        ask("common", i, Math.min(i + 1, count - 1));
        ask("square", i, j, 0);
        ask("square", i, j, 1);
        ask("nearer", i, j, random.nextInt(count), random.nextInt(count));
        if (i % 7 == 0) {
            ask("steps", i, j);
            ask("around", i, random.nextInt(41));
            int[] point = model.patch.halves.get(i).corners()[random.nextInt(3)];
            ask("locate", point[0], point[1], point[2], point[3]);
            ask("locate", point[0] + random.nextInt(3) - 1, point[1] + random.nextInt(3) - 1, point[2], point[3] - 1);
        }
    }

    private void ask(String name, Object... given) throws Exception {
        if (used >= 500) {
            object = new RhombInflator();
            object.start(start);
            object.level(level);
            used = 2;
        }
        used++;
        Class<?>[] types = new Class<?>[given.length];
        StringBuilder text = new StringBuilder(name).append('(');
        for (int k = 0; k < given.length; k++) {
            types[k] = given[k] instanceof Boolean ? boolean.class : int.class;
            text.append(k == 0 ? "" : ", ").append(given[k]);
        }
        long got = ((Number) RhombInflator.class.getMethod(name, types).invoke(object, given)).longValue();
        long want = model.call(name, given);
        check.due(object, "START " + start + ", LEVEL " + level + ": " + text + ")", got, want, model.status());
    }
}

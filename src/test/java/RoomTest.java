import java.lang.management.ManagementFactory;
import java.lang.reflect.Array;
import java.lang.reflect.Field;
import java.lang.reflect.Modifier;
import java.util.ArrayList;
import java.util.IdentityHashMap;
import java.util.List;
import java.util.Map;

/** All calls of one run live in one room: what an object holds is small, and calls make nothing anew. */
public final class RoomTest {
    public static void main(String[] args) throws Exception {
        Check check = new Check();
        long fresh = size(new RhombInflator());
        RhombInflator used = new RhombInflator();
        useAll(used);
        long full = size(used);
        System.out.println("fields and elements: " + fresh + " in a new object, " + full + " in a used one");
        RhombInflator grown = new RhombInflator();
        grown.comes(0, 130);
        // A run of 512 calls: all of them new objects; or each new one followed by the dearest call there is.
        check.holds("512 new objects have room", 512 * fresh < 7_300_000);
        check.holds("256 new ones with comes() have room", 256 * size(grown) < 7_300_000);
        check.holds("100 used ones have room", 100 * full < 7_300_000);
        checkCallsMakeNothing(check, used);
        check.end("RoomTest");
    }

    private static void useAll(RhombInflator x) {
        x.level(5);
        x.many(12);
        x.steps(0, 889);
        for (int start = 0; start < 4; start++) {
            x.comes(start, 130);
        }
        x.row(0);
        x.putBy();
        x.borrow(0);
        x.force(3);
        x.feed(0, 0, 0, 0, 0);
        x.load(20);
        x.print();
        x.like(2, true);
        x.ribbon(0, 0, 0);
    }

    private static void checkCallsMakeNothing(Check check, RhombInflator x) {
        com.sun.management.ThreadMXBean threads = (com.sun.management.ThreadMXBean) ManagementFactory.getThreadMXBean();
        long self = Thread.currentThread().getId();
        for (int warm = 0; warm < 2; warm++) {
            threads.getThreadAllocatedBytes(self);
            useAll(x);
        }
        long before = threads.getThreadAllocatedBytes(self);
        long around = threads.getThreadAllocatedBytes(self) - before;
        before = threads.getThreadAllocatedBytes(self);
        for (int n = 0; n < 20; n++) {
            useAll(x);
            x.start(n % 4);
        }
        long made = threads.getThreadAllocatedBytes(self) - before - around;
        check.holds("calls make nothing anew, but " + made + " bytes", made < 4096);
    }

    /** All fields and elements of all objects and arrays that can be come to from one. */
    private static long size(Object root) throws Exception {
        Map<Object, Boolean> seen = new IdentityHashMap<>();
        List<Object> open = new ArrayList<>(List.of(root));
        long sum = 0;
        while (!open.isEmpty()) {
            Object next = open.remove(open.size() - 1);
            if (seen.put(next, true) != null) {
                continue;
            }
            if (next.getClass().isArray()) {
                sum += Array.getLength(next);
                continue;
            }
            for (Field field : next.getClass().getDeclaredFields()) {
                if (!Modifier.isStatic(field.getModifiers())) {
                    sum++;
                    field.setAccessible(true);
                    Object held = field.getType().isPrimitive() ? null : field.get(next);
                    if (held != null) {
                        open.add(held);
                    }
                }
            }
        }
        return sum;
    }
}

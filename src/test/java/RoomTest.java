import com.sun.management.ThreadMXBean;
import java.lang.management.ManagementFactory;
import java.lang.reflect.Array;
import java.lang.reflect.Field;
import java.lang.reflect.Modifier;
import java.util.ArrayList;
import java.util.Collections;
import java.util.IdentityHashMap;
import java.util.List;
import java.util.Set;

/** All calls of a run share one room: an object is small, and its calls make nothing. */
public final class RoomTest {
    private static final int MOST_FIELDS = 13000;
    private static final int MOST_BYTES_MADE = 20000;

    public static void main(String[] args) throws IllegalAccessException {
        NumberFerries x = new NumberFerries();
        int[] before = sizeOf(x);
        everyCall(x);
        long start = made();
        for (int i = 0; i < 50; i++) everyCall(x);
        long bytes = made() - start;
        int[] behind = sizeOf(x);
        System.out.println("an object: " + behind[0] + " objects, " + behind[1]
            + " fields and elements; made by 50 rounds of calls: " + bytes + " bytes");
        boolean good = behind[0] == before[0] && behind[1] == before[1]
            && behind[1] <= MOST_FIELDS && bytes <= MOST_BYTES_MADE;
        if (!good) {
            System.out.println("that is too much: before, it was " + before[0] + ", " + before[1]);
            System.exit(1);
        }
    }

    private static long made() {
        ThreadMXBean threads = (ThreadMXBean) ManagementFactory.getThreadMXBean();
        return threads.getThreadAllocatedBytes(Thread.currentThread().getId());
    }

    private static final String TEXT = "shore;person 5 0;person 5 0;child 5 0;beast 5 0;hat 0 1;wish 1 2;unsure 2;"
        + "exact 10 0 2 1;loose 10 1 3 2;turning 10 0 2 3";

    private static void everyCall(NumberFerries x) {
        for (int i = 0; i < TEXT.length(); i++) x.write(TEXT.charAt(i), 1);
        x.fault();
        x.shore();
        x.erase();
        for (int a = -1; a < 9; a++) {
            x.count(a);
            x.doff(a);
            x.keep(a);
            x.sure(a);
            for (int b = -1; b < 9; b++) {
                x.thing(a, b);
                x.ferry(a, b);
                x.as(a, b);
                x.right(a, b);
                x.cross(a, b);
                x.loads(a, b);
                x.weighed(a, b);
                x.row(a, b);
                x.soonest(b, a);
                x.hats(a, b, 1);
                x.stones(a, b, 5);
                x.aboard(a, b, 0, 1);
                x.fewest(b, a, 0);
            }
            x.judge();
            x.noon();
            x.back(a);
        }
        x.burn();
    }

    /** How many objects and arrays hang on one, and how many fields and elements these have. */
    private static int[] sizeOf(Object root) throws IllegalAccessException {
        Set<Object> seen = Collections.newSetFromMap(new IdentityHashMap<>());
        List<Object> open = new ArrayList<>(List.of(root));
        int fields = 0;
        while (!open.isEmpty()) {
            Object one = open.remove(open.size() - 1);
            if (one instanceof Enum || !seen.add(one)) continue;
            if (one.getClass().isArray()) {
                fields += Array.getLength(one);
                for (int i = 0; i < Array.getLength(one) && one instanceof Object[]; i++) open.add(Array.get(one, i));
                continue;
            }
            for (Field f : one.getClass().getDeclaredFields()) {
                if (Modifier.isStatic(f.getModifiers())) continue;
                fields++;
                f.setAccessible(true);
                if (!f.getType().isPrimitive()) open.add(f.get(one));
            }
        }
        return new int[] {seen.size(), fields};
    }
}

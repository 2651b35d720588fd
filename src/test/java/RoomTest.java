import com.sun.management.ThreadMXBean;
import java.lang.management.ManagementFactory;
import java.lang.reflect.Array;
import java.lang.reflect.Field;
import java.lang.reflect.Modifier;
import java.util.ArrayDeque;
import java.util.Collections;
import java.util.Deque;
import java.util.IdentityHashMap;
import java.util.Set;

/** How much room an object takes, and that calls take none beside it. */
public final class RoomTest {
    private static final Checks c = new Checks("RoomTest");
    private static long sink;

    public static void main(String[] args) throws ReflectiveOperationException {
        VillagePay bare = new VillagePay();
        int[] first = room(bare);
        System.out.println("a new one: " + first[0] + " objects, " + first[1] + " fields and elements");
        c.yes("a new one is small", first[0] < 80 && first[1] < 4000);
        VillagePay full = fill();
        int[] last = room(full);
        System.out.println("with three images: " + last[0] + " objects, " + last[1] + " fields and elements");
        c.yes("a full one is small", last[0] < 300 && last[1] < 14000);
        use(full, 200);
        c.is("objects behind many calls", room(full)[0], last[0]);
        c.is("fields behind many calls", room(full)[1], last[1]);
        ThreadMXBean threads = (ThreadMXBean) ManagementFactory.getThreadMXBean();
        long thread = Thread.currentThread().getId();
        threads.getThreadAllocatedBytes(thread);
        long ahead = threads.getThreadAllocatedBytes(thread);
        use(full, 200);
        long made = threads.getThreadAllocatedBytes(thread) - ahead;
        System.out.println("bytes made by 200 rounds of calls: " + made);
        c.yes("calls make nothing", made < 2000);
        System.out.println("(" + sink + ")");
        c.finish();
    }

    private static VillagePay fill() {
        VillagePay x = new VillagePay();
        for (int i = 0; i < 12; i++) {
            x.village(100 + i, i, i);
        }
        for (int i = 0; i < 10; i++) {
            x.officer(i, i);
        }
        for (int i = 0; i < 100; i++) {
            x.give(i % 12, i % 7 == 0 ? -1 : i % 10, i * 11);
            x.say(i % 5, i % 12, i % 20, i);
        }
        Checks.rules(x, 0, "if famine and not rank<3 and had>1 and served<5:pay 700;".repeat(8));
        for (int k = 0; k < 3; k++) {
            x.image(k);
        }
        x.days(200);
        return x;
    }

    private static void use(VillagePay x, int rounds) {
        for (int i = 0; i < rounds; i++) {
            int o = i % 10;
            x.image(i % 3);
            sink += x.balance(o, 2, 200) + x.had(o, 1, 100) + x.due(o, 19, 200) + x.fit(o, 9999) + x.deal(7 << i % 7, true);
            sink += x.dealt(7, false, 3) + x.move(o, o) + x.idle() + x.moved(0) + x.weighed(3, 3, 200) + x.count(10);
            sink += x.feed(0x7061795b, 0x73746f70, 1, 2, 3) + x.reign(1 + i) + x.fault(1) + x.tried(100, 20, 3, 120, 0);
            sink += x.famine(1, 1, 100) ? 1 : 0;
            x.stay();
            x.again(i % 3);
        }
    }

    private static int[] room(Object root) throws ReflectiveOperationException {
        Set<Object> seen = Collections.newSetFromMap(new IdentityHashMap<>());
        Deque<Object> open = new ArrayDeque<>();
        seen.add(root);
        open.add(root);
        int slots = 0;
        while (!open.isEmpty()) {
            Object it = open.remove();
            if (it.getClass().isArray()) {
                slots += Array.getLength(it);
                for (int i = 0; i < Array.getLength(it) && !it.getClass().getComponentType().isPrimitive(); i++) {
                    add(Array.get(it, i), seen, open);
                }
                continue;
            }
            for (Field f : it.getClass().getDeclaredFields()) {
                if (!Modifier.isStatic(f.getModifiers())) {
                    slots++;
                    f.setAccessible(true);
                    if (!f.getType().isPrimitive()) {
                        add(f.get(it), seen, open);
                    }
                }
            }
        }
        return new int[] {seen.size(), slots};
    }

    private static void add(Object it, Set<Object> seen, Deque<Object> open) {
        if (it != null && seen.add(it)) {
            open.add(it);
        }
    }
}

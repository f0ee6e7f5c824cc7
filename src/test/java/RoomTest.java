import java.lang.management.ManagementFactory;
import java.lang.reflect.Array;
import java.lang.reflect.Field;
import java.lang.reflect.Modifier;
import java.util.IdentityHashMap;

/** What an object takes of the room: it is made once, and no call makes anything more. */
public final class RoomTest {
    private static final Due DUE = new Due("RoomTest");

    public static void main(String[] args) throws Exception {
        HalfNumber x = new HalfNumber();
        IdentityHashMap<Object, Boolean> seen = new IdentityHashMap<>();
        long elements = measure(x, seen);
        System.out.println("RoomTest: a new object has " + seen.size() + " objects and arrays, " + elements + " fields and elements");
        DUE.holds("few objects", seen.size() <= 100);
        DUE.holds("few elements", elements <= 10000);
        allocation();
        DUE.close();
    }

    private static long measure(Object o, IdentityHashMap<Object, Boolean> seen) throws Exception {
        if (o == null || seen.put(o, true) != null) return 0;
        long sum = 0;
        if (o.getClass().isArray()) {
            sum += Array.getLength(o);
            if (!o.getClass().getComponentType().isPrimitive()) for (Object part : (Object[]) o) sum += measure(part, seen);
            return sum;
        }
        for (Field f : o.getClass().getDeclaredFields()) {
            if (Modifier.isStatic(f.getModifiers())) continue;
            sum++;
            f.setAccessible(true);
            if (!f.getType().isPrimitive()) sum += measure(f.get(o), seen);
        }
        return sum;
    }

    private static void allocation() {
        com.sun.management.ThreadMXBean bean = (com.sun.management.ThreadMXBean) ManagementFactory.getThreadMXBean();
        HalfNumber x = new HalfNumber();
        for (int k = 0; k < 10; k++) {
            x.line(0, k, Due.plate("aaaa"), 0);
            x.line(1, 30 + k, Due.plate("aaaA"), 0);
        }
        long text = 0x6f66662039203b20L;
        askAll(x, text);
        long before = bean.getCurrentThreadAllocatedBytes();
        for (int k = 0; k < 10; k++) askAll(x, text);
        long made = bean.getCurrentThreadAllocatedBytes() - before;
        // the bean itself may make a little
        DUE.holds("calls make nothing: " + made + " bytes", made < 2000);
    }

    private static void askAll(HalfNumber x, long text) {
        x.feed(text); x.end(7); x.road(); x.fault(); x.rule(1); x.mixed(0, 1); x.setClock(0);
        x.drop(0, 3); x.line(0, 5, 5220, 1); x.of(0, 0, 1); x.sign(0, 0, 0, 1);
        x.took(0, 0); x.cost(0, 0); x.why(0, 0);
        for (int k = 0; k < 4; k++) x.best(k);
        x.first(0); x.sure(0, 0); x.share(0, 0, 0); x.ifMust(0, 0, true); x.alone(0, 0); x.alone(1, 1); x.many(0); x.ways(3);
        x.tell(0, 0); x.adopt(); x.judge(3); x.sheet(0, 0, 64); x.lay(0, 0, 1); x.prices(0, 0, 0, 4);
        x.times(5); x.clock(0); x.passed(1); x.reads(0, 0); x.blame(0); x.learn(4); x.enough(0); x.round(0, 0, 1); x.cars(0, 1);
        x.keep(0); x.back(0); x.read(0, 0, 0, 2, 1); x.torn(); x.count(2);
    }
}

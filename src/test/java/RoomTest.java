import java.lang.management.ManagementFactory;
import java.lang.reflect.Array;
import java.lang.reflect.Field;
import java.lang.reflect.Modifier;
import java.util.IdentityHashMap;
import java.util.Map;

/** All calls of a run live in one room: an object is small, and its calls make nothing. */
public final class RoomTest {
    private static final Check CHECK = new Check();
    private static final int OBJECTS_MOST = 200;
    private static final int ELEMENTS_MOST = 1500;

    private final Map<Object, Boolean> seen = new IdentityHashMap<>();
    private int elements = 0;

    public static void main(String[] args) throws IllegalAccessException {
        for (int cells = 1; cells <= 12; cells++) {
            WallDamp x = new WallDamp(cells);
            RoomTest fresh = measured(x);
            CHECK.holds("objects of " + cells + " cells: " + fresh.seen.size(), fresh.seen.size() <= OBJECTS_MOST);
            CHECK.holds("elements of " + cells + " cells: " + fresh.elements, fresh.elements <= ELEMENTS_MOST);
            useFully(x, cells);
            RoomTest used = measured(x);
            CHECK.same("objects behind use", used.seen.size(), fresh.seen.size());
            CHECK.same("elements behind use", used.elements, fresh.elements);
        }
        nothingIsMadeByCalls();
        CHECK.end();
    }

    private static RoomTest measured(WallDamp x) throws IllegalAccessException {
        RoomTest room = new RoomTest();
        room.walk(x);
        return room;
    }

    private void walk(Object one) throws IllegalAccessException {
        if (one == null || seen.put(one, true) != null) {
            return;
        }
        if (one.getClass().isArray()) {
            elements += Array.getLength(one);
            if (!one.getClass().getComponentType().isPrimitive()) {
                for (Object part : (Object[]) one) {
                    walk(part);
                }
            }
            return;
        }
        for (Class<?> type = one.getClass(); type != Object.class; type = type.getSuperclass()) {
            walkFields(one, type);
        }
    }

    private void walkFields(Object one, Class<?> type) throws IllegalAccessException {
        for (Field field : type.getDeclaredFields()) {
            if (!Modifier.isStatic(field.getModifiers())) {
                elements++;
                field.setAccessible(true);
                if (!field.getType().isPrimitive()) {
                    walk(field.get(one));
                }
            }
        }
    }

    private static void useFully(WallDamp x, int cells) {
        x.curve(0, 100, 10000);
        x.rates(0, 300, 300, 10);
        x.table(0, 1000);
        x.growth(0, 0, 0, 1);
        x.outside(0, 100, 5000, 50, 20);
        x.inside(0, 2000, 5000);
        x.leak(0, 10);
        x.water(0, 90);
        x.run(240);
        for (int what = 0; what < 6; what++) {
            x.told(0, what);
            x.balance(what);
        }
        if (cells <= 5) {
            x.order(48, 0);
        }
    }

    private static void nothingIsMadeByCalls() {
        if (!(ManagementFactory.getThreadMXBean() instanceof com.sun.management.ThreadMXBean threads)) {
            return;
        }
        WallDamp x = new WallDamp(5);
        useFully(x, 5);
        long me = Thread.currentThread().getId();
        threads.getThreadAllocatedBytes(me);
        long before = threads.getThreadAllocatedBytes(me);
        for (int i = 0; i < 20; i++) {
            x.run(240);
            x.order(48, 4);
        }
        long made = threads.getThreadAllocatedBytes(me) - before;
        CHECK.holds("bytes made by 40 calls: " + made, made < 4096);
    }
}

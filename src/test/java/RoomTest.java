import java.lang.management.ManagementFactory;
import java.lang.reflect.Array;
import java.lang.reflect.Field;
import java.lang.reflect.Modifier;
import java.util.IdentityHashMap;
import java.util.Map;

/** Rule 12 of LANGUAGE.md, and the one room for all calls of a run: what an object holds, and what calls make. */
public final class RoomTest {
    private static final int CALLS = 512;
    private static final long OBJECTS_MOST = 600_000;
    private static final long FIELDS_MOST = 7_300_000;
    /** What is counted of the JVM's own may differ a little; one small object a call would be far more. */
    private static final long BYTES_MOST = 4096;

    private final Checks checks = new Checks();
    private long objects = 0;
    private long fields = 0;

    public static void main(String[] args) throws IllegalAccessException {
        RoomTest t = new RoomTest();
        t.holds();
        t.makesNothing();
        t.checks.end();
    }

    // ---- what is held

    private void holds() throws IllegalAccessException {
        FallowFerry x = new FallowFerry();
        count(x);
        long objectsAtFirst = objects;
        long fieldsAtFirst = fields;
        checks.due("an object for each call would have room, objects", objects * CALLS <= OBJECTS_MOST ? 1 : 0, 1);
        checks.due("an object for each call would have room, fields", fields * CALLS <= FIELDS_MOST ? 1 : 0, 1);
        run(x);
        count(x);
        checks.due("objects behind a run", objects, objectsAtFirst);
        checks.due("fields behind a run", fields, fieldsAtFirst);
    }

    private void count(Object root) throws IllegalAccessException {
        objects = 0;
        fields = 0;
        walk(root, new IdentityHashMap<>());
    }

    private void walk(Object one, Map<Object, Boolean> met) throws IllegalAccessException {
        if (one == null || met.put(one, true) != null) return;
        objects++;
        if (one.getClass().isArray()) {
            int length = Array.getLength(one);
            fields += length;
            if (one.getClass().getComponentType().isPrimitive()) return;
            for (int k = 0; k < length; k++) walk(Array.get(one, k), met);
            return;
        }
        for (Field f : one.getClass().getDeclaredFields()) {
            if (Modifier.isStatic(f.getModifiers())) continue;
            fields++;
            f.setAccessible(true);
            if (!f.getType().isPrimitive()) walk(f.get(one), met);
        }
    }

    // ---- what is made

    private void makesNothing() {
        if (!(ManagementFactory.getThreadMXBean() instanceof com.sun.management.ThreadMXBean bean)
                || !bean.isThreadAllocatedMemorySupported() || !bean.isThreadAllocatedMemoryEnabled()) {
            System.out.println("this JVM doesn't count what is made: only what is held is looked at");
            return;
        }
        // the first run loads what the JVM needs
        run(new FallowFerry());
        bean.getCurrentThreadAllocatedBytes();
        FallowFerry x = new FallowFerry();
        long ahead = bean.getCurrentThreadAllocatedBytes();
        run(x);
        long made = bean.getCurrentThreadAllocatedBytes() - ahead;
        checks.due("a run of calls makes next to nothing (" + made + " bytes)", made <= BYTES_MOST ? 1 : 0, 1);
    }

    /** Each call of the face some times; the text's bytes are typed without the help of Tell, which makes texts. */
    private static void run(FallowFerry x) {
        type(x, Rivers.LONG);
        x.river();
        for (int k = 0; k < 8; k++) {
            plans(x, k);
            days(x, k);
            rest(x, k);
        }
        type(x, "thing 0 0 0 1;thing 9");
        x.river();
        x.clear();
        x.river();
    }

    private static void type(FallowFerry x, String text) {
        for (int k = 0; k < text.length(); k++) x.type(text.charAt(k), 1);
    }

    private static void plans(FallowFerry x, int k) {
        x.done(k - 1);
        x.rent(20, k - 1);
        x.least();
        x.sooner(k);
        x.standings();
        x.saw(k, k % 7, k % 2);
        x.fits(5, 0);
        x.fits(5, k);
        if (k == 4) x.forget();
    }

    private static void days(FallowFerry x, int k) {
        x.cross(k == 0 ? 16 : 0);
        x.rest();
        x.night();
        x.slide(k);
        if (k % 3 == 0) x.undo();
        x.lot(k);
    }

    private static void rest(FallowFerry x, int k) {
        x.thing(k, k % 5);
        x.now(k);
        x.owed(k, 50);
        x.mark(k, 0);
        x.keep(k % 3);
        x.back(k % 3);
        x.count(k);
        x.trace();
    }
}

import java.lang.management.ManagementFactory;
import java.lang.reflect.Array;
import java.lang.reflect.Field;
import java.lang.reflect.Modifier;
import java.util.IdentityHashMap;
import java.util.Map;

/** How much a run makes: its objects and arrays, and their fields and elements. */
public final class RoomTest {
    /** The room is some 600,000 objects and 7.3 million fields; a run of one object has a hundredth of it. */
    private static final int MOST_OBJECTS = 6000;
    private static final int MOST_FIELDS = 73000;

    private final Checks checks = new Checks();
    private final com.sun.management.ThreadMXBean threads =
        (com.sun.management.ThreadMXBean) ManagementFactory.getThreadMXBean();
    private int sum = 0;

    private long bytesMade() {
        return threads.getCurrentThreadAllocatedBytes();
    }

    /** All that is asked, and what changes but needs nothing new, once each. */
    private void ask(MaySheep x, int what) {
        sum += x.sheep(0, what) + x.man(0, what) + x.likes(0, 0) + x.ahead(0, 60, what) + x.won(0, 3, what);
        sum += x.least(0, 3, what) + x.men(what) + x.rests(0, 1, 20, what) + x.stranger(30, what) + x.settled(what);
        sum += x.shared(what) + x.taught(0, what) + x.worth(0, 1, 20) + x.ruled(what) + x.look(40, what);
        sum += x.frights(10, 40, 30, what) + x.count(what) + x.note(40, 0, 0) + x.seed(what) + x.force(what);
        sum += x.end(0) + x.feed(0x676f2030, 0x202b2031, 0x202d2032, 0x69662031, 0x3d305d5d) + x.rule();
        sum += x.feed(0x68696c6c, 0x20322033, 0x3b736865, 0x65702034, 0) + x.hill() + x.end(1);
    }

    /** Acts and images find their place made when all have been made once. */
    private void act(MaySheep x) {
        for (int n = 0; n < 21; n++) {
            sum += x.may();
        }
        for (int k = 0; k < 4; k++) {
            sum += x.image(k);
        }
        sum += x.salt(0, 0, 1) + x.teach(0, 1) + x.teach(0, MaySheep.NONE) + x.lead(0, 1) + x.undo() + x.back(2);
    }

    /** Rules of the most steps, so that each is as large as can be. */
    private static MaySheep large() {
        String rule = "go likes" + "+likes*2".repeat(29);
        return Made.with(Made.HILL, rule, rule, rule, rule, rule, rule);
    }

    private void madeByCalls() {
        MaySheep x = large();
        for (int n = 0; n < 3; n++) {
            act(x);
            ask(x, n);
        }
        bytesMade();
        long before = bytesMade();
        for (int n = 0; n < 20; n++) {
            act(x);
            ask(x, n % 5);
        }
        long made = bytesMade() - before;
        checks.due("bytes that calls make", made, 0);
    }

    private static void count(Object object, Map<Object, Boolean> seen, long[] fields) throws IllegalAccessException {
        if (object == null || seen.put(object, true) != null) {
            return;
        }
        Class<?> type = object.getClass();
        if (type.isArray()) {
            int length = Array.getLength(object);
            fields[0] += length;
            for (int i = 0; i < length && !type.getComponentType().isPrimitive(); i++) {
                count(Array.get(object, i), seen, fields);
            }
            return;
        }
        for (Field field : type.getDeclaredFields()) {
            if (!Modifier.isStatic(field.getModifiers())) {
                fields[0]++;
                field.setAccessible(true);
                if (!field.getType().isPrimitive()) {
                    count(field.get(object), seen, fields);
                }
            }
        }
    }

    private void keptByObjects() throws IllegalAccessException {
        MaySheep x = large();
        act(x);
        ask(x, 0);
        Map<Object, Boolean> seen = new IdentityHashMap<>();
        long[] fields = new long[1];
        count(x, seen, fields);
        checks.holds("objects that a run makes: " + seen.size(), seen.size() <= MOST_OBJECTS);
        checks.holds("fields and elements that a run makes: " + fields[0], fields[0] <= MOST_FIELDS);
        System.out.println("a run makes " + seen.size() + " objects with " + fields[0] + " fields and elements");
    }

    public static void main(String[] args) throws IllegalAccessException {
        RoomTest test = new RoomTest();
        test.madeByCalls();
        test.keptByObjects();
        test.checks.holds("answers that are used", test.sum != 0);
        test.checks.exit("room");
    }
}

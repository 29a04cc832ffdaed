import java.lang.management.ManagementFactory;
import java.lang.reflect.Array;
import java.lang.reflect.Field;
import java.lang.reflect.Modifier;
import java.util.ArrayDeque;
import java.util.Collections;
import java.util.Deque;
import java.util.IdentityHashMap;
import java.util.Set;

/** All calls of a run live in one room: what a new object takes is little, and no call takes more. */
public final class RoomTest {
    private static final Check CHECK = new Check();

    private static int objects;
    private static int elements;

    public static void main(String[] args) throws ReflectiveOperationException {
        TenTrials x = told();
        long sum = 0;
        // The first rounds let the machine load what it needs.
        for (int round = 0; round < 3; round++) {
            sum += everyCall(x);
        }
        com.sun.management.ThreadMXBean meter = (com.sun.management.ThreadMXBean) ManagementFactory.getThreadMXBean();
        long before = meter.getCurrentThreadAllocatedBytes();
        before = meter.getCurrentThreadAllocatedBytes();
        sum += everyCall(x);
        long taken = meter.getCurrentThreadAllocatedBytes() - before;
        CHECK.due("bytes that one round of all calls takes (sum " + sum + ")", 0, (int) taken);
        measure(x);
        System.out.println("an object has " + objects + " objects and arrays with " + elements + " fields and elements");
        CHECK.due("objects of 512 objects stay below 600000", 1, 512L * objects < 600000 ? 1 : 0);
        CHECK.due("elements of 512 objects stay below 7300000", 1, 512L * elements < 7300000 ? 1 : 0);
        CHECK.end("RoomTest");
    }

    private static TenTrials told() {
        return Check.told("event run base 1000 line 1 by 2;event field base 100 square 1 by 100;"
            + "event field base 0 root 10 by 1 spread 2;event run base 500 table 10 : 100, 20 : 150, 40 : 400;tie wins;"
            + "bonus 50 when total > 900;bonus 20 when done = 3 and not points 0 > 120 or [best - (least + 1) < 5];"
            + "athlete;athlete;mark 0 0 800;mark 0 1 300;mark 0 2 4;mark 1 0 700;mark 1 3 470;gain 0 0 100 in 10;");
    }

    private static long everyCall(TenTrials x) {
        long sum = x.feed(0x6174686c, 0x6574653b, 0x74696520, 0x6265733b, 0x20202020) + x.end(19) + x.fault(1) + x.count(0);
        sum += x.text() + x.event(0, 0) + x.points(2, 77) + x.worst(1, 500) + x.top(3) + x.same(0, 5, 1) + x.step(0, 9);
        sum += x.mark(0, 0) + x.worth(0, 0) + x.of(0, 0) + x.holds(1, 0) + x.bonus(0) + x.place(0) + x.rank(0) + x.leads(0);
        sum += x.dream() + x.need(0, 900) + x.needIn(0, 0, 900) + x.pass(0, 0, 1) + x.trained(0, 0, 5) + x.gains(0, 0, 0);
        sum += x.pays(0, 5) + x.spread(0, 60, 1) + x.hours(0, 800) + x.meet(5, 0) + x.met(5, 0) + x.odds(5, 40, 0);
        sum += x.sets(0, 0, 5) + x.athlete() + x.gain(0, 0, 5, 5) + x.trains(0, 0, 5) + x.tie(1) + x.tell() + x.card(0);
        sum += x.octet(0) + x.kth(0, 0) + x.behind(0) + x.hour(0, 0, 5) + x.squad(60, 0) + x.close() + x.team(3);
        sum += x.kinds(0, 0, 2000) + x.lent(0, 0, 1) + x.even(500);
        while (x.undo() != TenTrials.NONE) {
            sum++;
        }
        return sum;
    }

    private static void measure(Object root) throws ReflectiveOperationException {
        Set<Object> seen = Collections.newSetFromMap(new IdentityHashMap<>());
        Deque<Object> open = new ArrayDeque<>();
        open.add(root);
        while (!open.isEmpty()) {
            Object object = open.pop();
            if (!seen.add(object)) {
                continue;
            }
            objects++;
            Class<?> type = object.getClass();
            if (type.isArray()) {
                elements += Array.getLength(object);
                for (int i = 0; i < Array.getLength(object) && !type.getComponentType().isPrimitive(); i++) {
                    add(open, Array.get(object, i));
                }
            } else if (type.getName().startsWith("TenTrials")) {
                for (Field field : type.getDeclaredFields()) {
                    if (!Modifier.isStatic(field.getModifiers())) {
                        elements++;
                        field.setAccessible(true);
                        add(open, field.getType().isPrimitive() ? null : field.get(object));
                    }
                }
            }
        }
    }

    private static void add(Deque<Object> open, Object object) {
        if (object != null) {
            open.add(object);
        }
    }
}

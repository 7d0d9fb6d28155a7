import java.lang.management.ManagementFactory;
import java.lang.reflect.Array;
import java.lang.reflect.Field;
import java.lang.reflect.Modifier;
import java.util.ArrayDeque;
import java.util.Collections;
import java.util.Deque;
import java.util.IdentityHashMap;
import java.util.Set;

/** All calls of one run live in one room: what an object holds is counted, and no call may make anything more. */
public final class RoomTest {
    private static final int MOST_OBJECTS = 100;
    private static final int MOST_FIELDS = 1000;
    /** What measuring itself may take; a call that made but one object would take far more in all its rounds. */
    private static final int MOST_BYTES = 4096;
    private static final int ROUNDS = 2000;

    private static long sum;

    public static void main(String[] args) throws Exception {
        boolean holds = holdsLittle(new EndlessTug()) & makesNothing();
        System.out.println(holds ? "the room is kept" : "the room is not kept");
        if (!holds) {
            System.exit(1);
        }
    }

    private static boolean holdsLittle(EndlessTug tug) throws Exception {
        Set<Object> seen = Collections.newSetFromMap(new IdentityHashMap<>());
        Deque<Object> open = new ArrayDeque<>();
        open.add(tug);
        seen.add(tug);
        int fields = 0;
        while (!open.isEmpty()) {
            Object one = open.remove();
            if (one.getClass().isArray()) {
                fields += Array.getLength(one);
                for (int i = 0; i < Array.getLength(one) && !one.getClass().getComponentType().isPrimitive(); i++) {
                    follow(Array.get(one, i), seen, open);
                }
                continue;
            }
            for (Class<?> type = one.getClass(); type != Object.class; type = type.getSuperclass()) {
                for (Field field : type.getDeclaredFields()) {
                    if (!Modifier.isStatic(field.getModifiers())) {
                        fields++;
                        field.setAccessible(true);
                        follow(field.getType().isPrimitive() ? null : field.get(one), seen, open);
                    }
                }
            }
        }
        System.out.println("an object is made of " + seen.size() + " objects and arrays, " + fields + " fields and elements");
        return seen.size() <= MOST_OBJECTS && fields <= MOST_FIELDS;
    }

    private static void follow(Object next, Set<Object> seen, Deque<Object> open) {
        if (next != null && seen.add(next)) {
            open.add(next);
        }
    }

    private static boolean makesNothing() {
        var threads = (com.sun.management.ThreadMXBean) ManagementFactory.getThreadMXBean();
        long self = Thread.currentThread().getId();
        EndlessTug[] tugs = new EndlessTug[ROUNDS + 1];
        for (int i = 0; i <= ROUNDS; i++) {
            tugs[i] = new EndlessTug();
        }
        everyCall(tugs[ROUNDS]);
        long before = threads.getThreadAllocatedBytes(self);
        for (int i = 0; i < ROUNDS; i++) {
            everyCall(tugs[i]);
        }
        long made = threads.getThreadAllocatedBytes(self) - before;
        System.out.println(ROUNDS + " times every call, right and refused, made " + made + " bytes; " + sum);
        return made <= MOST_BYTES;
    }

    private static void everyCall(EndlessTug x) {
        people(x);
        text(x);
        rows(x);
        images(x);
        days(x);
        refused(x);
    }

    private static void people(EndlessTug x) {
        sum += x.slack(1) + x.harvest(33) + x.knot(-2) + x.now(7) + x.now(8);
        for (int kind = 0; kind < 6; kind++) {
            sum += x.person(kind, kind % 2);
        }
        sum += x.of(0, 5) + x.set(0, 2, 1) + x.set(1, 2, 1) + x.turn(3, 4) + x.as(3, 1) + x.relieve(2, 0);
    }

    private static void text(EndlessTug x) {
        sum += x.feed(0x6d616e20, 4) + x.feed(0x70756220, 4) + x.feed(0x6f6e, 2) + x.green();
        sum += x.feed(0x6d616e, 3) + x.green() + x.feed(0, 1) + x.wipe();
    }

    private static void rows(EndlessTug x) {
        sum += x.sheet(0, 16, 5) + x.sheet(1, 16, 4) + x.write(1, 2, 9L) + x.book(0) + x.read(0, 0);
        sum += x.copy(0, 0, 1, 1, 2) + x.lays(1) + x.sheet(0, 0, 0);
    }

    private static void images(EndlessTug x) {
        sum += x.image() + x.undo() + x.tear() + x.count(3) + x.status(-1);
    }

    private static void days(EndlessTug x) {
        sum += x.days(5) + x.on(30, 1) + x.then(0, 30, 1) + x.wins(1, 9999) + x.off(0) + x.turns();
        sum += x.spell(1, 9) + x.kind(0, 9) + x.week(1, 9) + x.strong(0, 9, 9) + x.bears(0, 9) + x.fewest(0) + x.traitor(9);
    }

    private static void refused(EndlessTug x) {
        sum += x.slack(100) + x.person(6, 0) + x.as(0, 5) + x.relieve(0, 0) + x.undo() + x.sheet(0, 8, -1) + x.write(0, 0, 0L);
    }
}

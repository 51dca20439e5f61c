import java.lang.management.ManagementFactory;
import java.lang.reflect.Array;
import java.lang.reflect.Field;
import java.lang.reflect.Modifier;
import java.util.ArrayDeque;
import java.util.Collections;
import java.util.Deque;
import java.util.IdentityHashMap;
import java.util.Set;

/** All calls of one run live in one room: an object with its 512 calls stays far below what the room holds. */
public final class RoomTest {
    private static final Check CHECK = new Check("RoomTest");
    private static final long MOST_OBJECTS = 600000;
    private static final long MOST_ELEMENTS = 7300000;
    private static final long BYTES_OF_AN_ELEMENT = 4;
    private static final int MOST_CALLS = 512;
    private static final int RUNS = 50;
    private static final int CALLS_OF_A_TURN = 14 + 2 * 46;

    private static int calls;

    public static void main(String[] args) throws ReflectiveOperationException {
        whatIsKept();
        whatIsMade();
        CHECK.end();
    }

    private static void whatIsKept() throws ReflectiveOperationException {
        sizeOf("a new object", new RightsPool());
        sizeOf("an object after its calls", oneRun());
    }

    private static void sizeOf(String what, RightsPool pool) throws ReflectiveOperationException {
        Set<Object> seen = Collections.newSetFromMap(new IdentityHashMap<>());
        Deque<Object> todo = new ArrayDeque<>();
        seen.add(pool);
        todo.add(pool);
        long elements = 0;
        while (!todo.isEmpty()) {
            Object one = todo.remove();
            elements += one.getClass().isArray() ? Array.getLength(one) : one.getClass().getDeclaredFields().length;
            for (Object part : partsOf(one)) {
                if (part != null && seen.add(part)) {
                    todo.add(part);
                }
            }
        }
        System.out.println("RoomTest: " + what + " is " + seen.size() + " objects, " + elements + " fields and elements");
        CHECK.due("objects of " + what + " are few", seen.size() < MOST_OBJECTS, true);
        CHECK.due("elements of " + what + " are few", elements < MOST_ELEMENTS, true);
    }

    private static Object[] partsOf(Object one) throws ReflectiveOperationException {
        if (one instanceof Object[] row) {
            return row;
        }
        if (one.getClass().isArray()) {
            return new Object[0];
        }
        Field[] fields = one.getClass().getDeclaredFields();
        Object[] parts = new Object[fields.length];
        for (int k = 0; k < fields.length; k++) {
            boolean isPart = !fields[k].getType().isPrimitive() && !Modifier.isStatic(fields[k].getModifiers());
            fields[k].setAccessible(true);
            parts[k] = isPart ? fields[k].get(one) : null;
        }
        return parts;
    }

    private static void whatIsMade() {
        com.sun.management.ThreadMXBean threads = (com.sun.management.ThreadMXBean) ManagementFactory.getThreadMXBean();
        long thread = Thread.currentThread().getId();
        oneRun();
        long before = threads.getThreadAllocatedBytes(thread);
        for (int k = 0; k < RUNS; k++) {
            oneRun();
        }
        long bytes = (threads.getThreadAllocatedBytes(thread) - before) / RUNS;
        System.out.println("RoomTest: a run of " + calls + " calls makes some " + bytes + " bytes");
        CHECK.due("bytes that a run makes are few", bytes < MOST_ELEMENTS * BYTES_OF_AN_ELEMENT, true);
    }

    /** An object with as many calls as it may have, of all sorts. */
    private static RightsPool oneRun() {
        RightsPool pool = Texts.pool(Pools.FULL);
        calls = (Pools.FULL.length() + 19) / 20 + 1;
        while (calls + CALLS_OF_A_TURN <= MOST_CALLS) {
            allCalls(pool);
            calls += CALLS_OF_A_TURN;
        }
        return pool;
    }

    private static void allCalls(RightsPool x) {
        // "land a all both 10; " twice: a fault, so that all else stays
        x.feed(0x6c616e64, 0x20612061, 0x6c6c2062, 0x6f746820, 0x31303b20);
        x.feed(0x6c616e64, 0x20612061, 0x6c6c2062, 0x6f746820, 0x31303b20);
        x.text(40);
        x.fault(0);
        x.play(0, 0, 10);
        x.play(1, 1, 10);
        x.year();
        x.claim(2, 0);
        x.terms(1, 0, 3);
        x.move(1, 0);
        x.part(0);
        x.partAll();
        x.giveBack(0, 0);
        askAll(x);
        x.undo();
    }

    private static void askAll(RightsPool x) {
        for (int w = 0; w < 2; w++) {
            x.land(w, 5 + w);
            x.player(w, 3 + w);
            x.session(w, 3 + w);
            x.of(w, 0, w);
            x.seat(w, 0);
            x.role(w, w);
            x.pays(w, 1, w);
            x.paidBy(w, w);
            x.answer(w, 1);
            x.ring(w);
            x.rings();
            x.paid(w, 0, w);
            x.kept(0, w, 0, w);
            x.lapsed(0, w, 0);
            x.lapses(w, 3);
            x.share(w, 0, 7, 1);
            x.wouldPlay(w, w, 5, w);
            x.wouldClaim(2, w);
            x.bestClaim(2, w);
            x.claimant(w, w);
            x.wouldPart(w, w);
            x.gain(w, 0, 0, 9, 2, 1);
            x.pairs(w, 0, 1, 3);
            x.most(-w, w);
            x.ranked(w);
            x.across(0, w, true);
            x.idle();
            x.nextLapse(w);
            x.bestLand(w, 0, 5, w);
            x.net(w);
            x.extreme(w);
            x.round(w, w);
            x.bestTerms(w, w);
            x.unknown(w);
            x.statement(w, 0, w);
            x.moveGain(w, 0);
            x.bestHome(w, w);
            x.answers(w);
            x.poorest(w, w);
            x.openSeats(w);
            x.late(w);
            x.split(w, w, 5, w);
            x.dearest(w);
            x.reached(w, w);
            x.money(4 + w);
            x.count(7 + w);
        }
    }
}

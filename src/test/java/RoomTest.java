import java.lang.management.ManagementFactory;
import java.lang.reflect.Array;
import java.lang.reflect.Field;
import java.lang.reflect.Modifier;
import java.util.ArrayList;
import java.util.Collections;
import java.util.IdentityHashMap;
import java.util.LinkedHashMap;
import java.util.List;
import java.util.Map;
import java.util.Set;

/**
 * All calls of one run live in one room. Counted are what the dearest call makes, times all calls of an object,
 * and what an object itself is made of.
 */
public final class RoomTest {
    private static final Check CHECK = new Check("RoomTest");
    private static final int CALLS = 512;
    // Each call may be an object's first one: it is measured on a new object, and again on one that was used.
    private static final long MOST_BYTES = 64L * CALLS;
    // By this even 512 objects would stay within the room's 7.3 million fields and elements.
    private static final int MOST_ELEMENTS = 7_300_000 / CALLS;
    private static final int MOST_OBJECTS = 600_000 / CALLS;
    private static final com.sun.management.ThreadMXBean BEAN =
            (com.sun.management.ThreadMXBean) ManagementFactory.getThreadMXBean();

    interface Call {
        void on(LeastWished x);
    }

    public static void main(String[] args) throws IllegalAccessException {
        Map<String, Call> calls = calls();
        CHECK.due("calls of the face", calls.size(), 46);
        calls.values().forEach(call -> bytesOf(full(), call));
        dearestCall(calls);
        longRun(calls.values());
        whatAnObjectIs(calls.values());
        CHECK.end();
    }

    private static void dearestCall(Map<String, Call> calls) {
        String dearest = "none";
        long most = 0;
        for (Map.Entry<String, Call> e : calls.entrySet()) {
            LeastWished used = full();
            calls.values().forEach(call -> call.on(used));
            fill(used);
            long[] made = {bytesOf(new LeastWished(), e.getValue()), bytesOf(full(), e.getValue()), bytesOf(used, e.getValue())};
            for (long bytes : made) {
                if (bytes > most) {
                    most = bytes;
                    dearest = e.getKey();
                }
            }
        }
        System.out.println("RoomTest: the dearest call (" + dearest + ") times " + CALLS + ": " + most * CALLS + " bytes");
        CHECK.due("the dearest call, " + dearest + ", makes too much", most * CALLS > MOST_BYTES, false);
    }

    private static void longRun(Iterable<Call> calls) {
        LeastWished x = full();
        long before = bytes();
        for (int k = 0; k < CALLS / 46; k++) {
            for (Call call : calls) {
                call.on(x);
            }
            fill(x);
        }
        long made = bytes() - before;
        System.out.println("RoomTest: a run of all calls: " + made + " bytes");
        CHECK.due("a run of all calls makes too much", made > MOST_BYTES, false);
    }

    private static void whatAnObjectIs(Iterable<Call> calls) throws IllegalAccessException {
        LeastWished x = new LeastWished();
        int[] made = objectsAndElements(x);
        System.out.println("RoomTest: a new object: " + made[0] + " objects and arrays, " + made[1] + " fields and elements");
        CHECK.due("a new object has too many objects", made[0] > MOST_OBJECTS, false);
        CHECK.due("a new object has too many elements", made[1] > MOST_ELEMENTS, false);
        fill(x);
        for (Call call : calls) {
            call.on(x);
        }
        int[] then = objectsAndElements(x);
        CHECK.due("objects of an object that was used", then[0], made[0]);
        CHECK.due("elements of an object that was used", then[1], made[1]);
    }

    private static LeastWished full() {
        LeastWished x = new LeastWished();
        fill(x);
        return x;
    }

    /** Nine floors, ten riders of whom some are in, stops that were seen, a text that can be a day. */
    private static void fill(LeastWished x) {
        x.floors(9);
        Check.house(x, "1>2@0!;2>2@0!;3>1@0!;4>-@0;5>8@0;8>7@3");
        x.crowd(7, 10);
        x.saw(0, 7, 1);
        x.saw(0, 11, 1);
        x.saw(0, 13, 2);
        x.saw(3, 511, 2);
        x.keep(1);
        Check.text(x, "r2;wa3;oa");
    }

    /** Each call of the face once, so that it answers: what it throws is made by the document's word. */
    private static Map<String, Call> calls() {
        Map<String, Call> m = new LinkedHashMap<>();
        m.put("goes", x -> x.goes(1));
        m.put("sign", x -> x.sign(0x3B727272));
        m.put("day", x -> x.day());
        m.put("end", x -> x.end(0));
        m.put("house", x -> x.house());
        m.put("law", x -> x.law());
        m.put("of", x -> {
            if (x.count(1) > 0) {
                x.of(0, 3);
            }
        });
        m.put("set", x -> x.set(1, 0, 1));
        m.put("sheet", x -> x.sheet(0, 10, 0, 1));
        m.put("dog", x -> x.dog(1));
        m.put("enter", x -> x.enter(3));
        m.put("leave", x -> x.leave(0));
        m.put("ride", x -> x.ride());
        m.put("rides", x -> x.rides(60));
        m.put("undo", x -> x.undo());
        m.put("stop", x -> x.stop());
        m.put("worthOf", x -> x.worthOf(1));
        m.put("can", x -> x.can());
        m.put("along", x -> x.along(1));
        m.put("without", x -> x.without(1));
        m.put("advise", x -> x.advise(1));
        m.put("rests", x -> x.rests(30));
        m.put("then", x -> x.then(12));
        m.put("since", x -> x.since(1));
        m.put("ballast", x -> {
            if ((x.count(4) & 2) != 0) {
                x.ballast(1, 40);
            }
        });
        m.put("hinders", x -> x.hinders(40));
        m.put("all", x -> x.all());
        m.put("one", x -> x.one(9));
        m.put("gather", x -> x.gather(1, 7));
        m.put("states", x -> x.states(6));
        m.put("stuck", x -> x.stuck());
        m.put("saw", x -> x.saw(0, 1, 1));
        m.put("believed", x -> x.believed());
        m.put("fits", x -> x.fits(0));
        m.put("lies", x -> x.lies());
        m.put("truly", x -> x.truly(1));
        m.put("forget", x -> x.forget());
        m.put("odds", x -> x.odds(1));
        m.put("likely", x -> x.likely());
        m.put("split", x -> x.split());
        m.put("keep", x -> x.keep(0));
        m.put("again", x -> x.again(1));
        m.put("count", x -> x.count(4));
        m.put("row", x -> {
            if (x.count(10) > 0) {
                x.row(0);
            }
        });
        m.put("crowd", x -> x.crowd(3, 10));
        m.put("floors", x -> x.floors(9));
        return m;
    }

    private static long bytes() {
        return BEAN.getThreadAllocatedBytes(Thread.currentThread().getId());
    }

    private static long bytesOf(LeastWished x, Call call) {
        long before = bytes();
        call.on(x);
        return bytes() - before;
    }

    /** All that can be reached from an object: objects and arrays, fields and elements. */
    private static int[] objectsAndElements(Object start) throws IllegalAccessException {
        Set<Object> known = Collections.newSetFromMap(new IdentityHashMap<>());
        List<Object> found = new ArrayList<>();
        known.add(start);
        found.add(start);
        int elements = 0;
        for (int i = 0; i < found.size(); i++) {
            for (Object part : partsOf(found.get(i))) {
                elements++;
                if (part != null && !(part instanceof Number) && !(part instanceof Boolean) && known.add(part)) {
                    found.add(part);
                }
            }
        }
        return new int[] {found.size(), elements};
    }

    private static List<Object> partsOf(Object o) throws IllegalAccessException {
        List<Object> parts = new ArrayList<>();
        if (o.getClass().isArray()) {
            for (int i = 0; i < Array.getLength(o); i++) {
                parts.add(Array.get(o, i));
            }
            return parts;
        }
        for (Field f : o.getClass().getDeclaredFields()) {
            if (!Modifier.isStatic(f.getModifiers())) {
                f.setAccessible(true);
                parts.add(f.get(o));
            }
        }
        return parts;
    }
}

import java.lang.management.ManagementFactory;
import java.lang.reflect.Array;
import java.lang.reflect.Field;
import java.lang.reflect.Modifier;
import java.util.ArrayDeque;
import java.util.Deque;
import java.util.IdentityHashMap;
import java.util.Map;

/** The room that a run lives in: how much a new object has, and that no call makes anything. */
public final class RoomTest {
    private static final String WIDEST = "p2 1 0 60,59,1,2;p2 3 0 60,57,3,2;p2 5 0 60,53,4,2;p2 7 0 60,47,7,2;p2 1 0 60,41,8,2;p2 3 0 60,31,9,2;"
            + "p3 0 0 60,7,5,1;l1 2;l3 4;l5 6;l7 8;l29 30;i1 2;i3 4;i5 6;i7 8;i11 99;s7 6;c20 19 18;";
    private static long sum = 0;

    public static void main(String[] args) throws IllegalAccessException {
        newObject();
        calls();
        Due.end("RoomTest");
    }

    private static void newObject() throws IllegalAccessException {
        Map<Object, Boolean> seen = new IdentityHashMap<>();
        Deque<Object> open = new ArrayDeque<>();
        open.add(new CadenzaEnds());
        long objects = 0;
        long elements = 0;
        while (!open.isEmpty()) {
            Object one = open.remove();
            if (seen.put(one, true) != null) {
                continue;
            }
            objects++;
            if (one.getClass().isArray()) {
                elements += Array.getLength(one);
                for (int i = 0; i < Array.getLength(one) && !one.getClass().getComponentType().isPrimitive(); i++) {
                    open.add(Array.get(one, i));
                }
                continue;
            }
            for (Field field : one.getClass().getDeclaredFields()) {
                if (!Modifier.isStatic(field.getModifiers())) {
                    elements++;
                    field.setAccessible(true);
                    if (!field.getType().isPrimitive()) {
                        open.add(field.get(one));
                    }
                }
            }
        }
        System.out.println("a new object: " + objects + " objects and arrays, " + elements + " fields and elements");
        Due.is("few objects and arrays", objects <= 120 ? 1 : 0, 1);
        Due.is("few fields and elements", elements <= 11000 ? 1 : 0, 1);
    }

    private static void calls() {
        var threads = (com.sun.management.ThreadMXBean) ManagementFactory.getThreadMXBean();
        long self = Thread.currentThread().getId();
        CadenzaEnds x = new CadenzaEnds();
        ask(x);
        long before = threads.getThreadAllocatedBytes(self);
        for (int round = 0; round < 20; round++) {
            ask(x);
        }
        long made = threads.getThreadAllocatedBytes(self) - before;
        // asking for the count may itself take a little
        Due.is("twenty rounds of every call make nothing, but made " + made + " bytes", made < 2000 ? 1 : 0, 1);
        Due.is("they were asked", sum != 0 ? 1 : 0, 1);
    }

    private static void ask(CadenzaEnds x) {
        for (int i = 0; i < WIDEST.length(); i++) {
            sum += x.feed(WIDEST.charAt(i));
        }
        sum += x.hall() + x.fault() + x.told(0) + x.part(0, 0) + x.length(0, 0) + x.player(0, 0) + x.instrument(0, 0);
        sum += x.costs(1, 2, 3) + x.sign(4, 5) + x.lags(0, 1, 2) + x.lead(1) + x.drift(99);
        sum += x.ends(80, 0) + x.by(80, 1) + x.mean(0) + x.edge(1) + x.starts(1, 60, 0) + x.isIt(60, 2, 1, 0);
        sum += x.go(80, 0) + x.bestGo() + x.lift(80, 9, 0) + x.bestLift(9) + x.saved(3, 0);
        sum += x.apart() + x.bestWay(0) + x.lookers(4, 1) + x.claps(3, 0) + x.lost(0, 5) + x.help(0, 5) + x.out(80, 2);
        sum += x.enter(0, 5) + x.firstIn(0) + x.ahead(9) + x.write(0, 60) + x.judge() + x.keep(0) + x.goBack(0) + x.tear() + x.seed(5);
        sum += x.feed('x') + x.hall();
    }
}

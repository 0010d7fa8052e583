import java.lang.management.ManagementFactory;
import java.lang.reflect.Array;
import java.lang.reflect.Field;
import java.lang.reflect.InvocationTargetException;
import java.lang.reflect.Method;
import java.lang.reflect.Modifier;
import java.util.Collections;
import java.util.IdentityHashMap;
import java.util.NoSuchElementException;
import java.util.Set;

/** What the dearest calls allocate, and that no argument in any state makes the machine throw. */
public final class RoomTest {
    private static final int[] NUMBERS = {Integer.MIN_VALUE, -65538, -3, -2, -1, 0, 1, 2, 3, 4, 5, 6, 12, 13, 14, 20, 60,
        99, 100, 200, 201, 1099, 1100, 1101, 65536, 65537, 1 << 30, Integer.MAX_VALUE};

    static final String FULL = "border wind 5;land a duty 9;land b duty 8;land c duty 7;land d duty 1"
            + ";smell e plain from a;smell f heavy from b;smell g cover from c;smell h burnt from d;smell i incense from a"
            + ";smell j plain from b;nose k skill 1;nose l skill 2;nose m skill 3;nose n skill 4;place o in a nose k"
            + ";place p in b nose l;place q in c nose m;place r in d nose n;place s in a nose k;place t in b nose l"
            + ";path o p hours 1;path o q hours 1;path o r hours 1;path o s hours 1;path o t hours 1;path p q hours 1"
            + ";path p r hours 1;path p s hours 1;path p t hours 1;path q r hours 1;leaves o e 9;leaves p f 9"
            + ";traveller u simple home a at o;traveller v soldier home b at o;traveller w bride home c at p"
            + ";traveller x child home d at q;on u e 99;on u f 99;on u g 2;on v e 99;on v f 99;on w j 99;on w h 99"
            + ";walk u p,q,r,q,p;walk v p,t,p,t,p;walk w o,t,o,t,o;walk x p,o,p,o,p;asked u 0;whiff e 0;whiff f 0";

    public static void main(String[] args) throws Exception {
        anyArguments(new SmellCustoms());
        anyArguments(Check.told(FULL));
        anyArguments(Check.told("border wind 1;land a duty 0;place b in a"));
        anyArguments(Check.told("border wind 1;land a duty 0;place b in a;traveller c child home a at b"));
        allocates();
        takesOfTheRoom();
        Check.end("RoomTest");
    }

    private static void anyArguments(SmellCustoms x) throws Exception {
        for (Method method : SmellCustoms.class.getDeclaredMethods()) {
            if (!Modifier.isPublic(method.getModifiers())) {
                continue;
            }
            Object[] arguments = new Object[method.getParameterCount()];
            for (int i = 0; i < 3000; i++) {
                for (int j = 0; j < arguments.length; j++) {
                    arguments[j] = NUMBERS[Math.floorMod(i * 7919 + (i >> 3) * (j + 3) * 31 + j * i, NUMBERS.length)];
                }
                Check.due(method.getName() + " throws what it should not", isFine(x, method, arguments), true);
            }
        }
    }

    private static boolean isFine(SmellCustoms x, Method method, Object[] arguments) throws Exception {
        try {
            method.invoke(x, arguments);
            return true;
        } catch (InvocationTargetException e) {
            return method.getName().equals("led") && e.getCause() instanceof NoSuchElementException;
        }
    }

    private static void allocates() {
        com.sun.management.ThreadMXBean beans =
                (com.sun.management.ThreadMXBean) ManagementFactory.getThreadMXBean();
        long thread = Thread.currentThread().getId();
        SmellCustoms x = Check.told(FULL);
        dear(x);
        long before = beans.getThreadAllocatedBytes(thread);
        for (int i = 0; i < 100; i++) {
            dear(x);
        }
        long each = (beans.getThreadAllocatedBytes(thread) - before) / 100;
        Check.due("the dearest calls allocate little: " + each + " bytes", each < 1000, true);
        before = beans.getThreadAllocatedBytes(thread);
        new SmellCustoms();
        long made = beans.getThreadAllocatedBytes(thread) - before;
        Check.due("an object is small: " + made + " bytes", made < 40000, true);
    }

    /** Making an object is the dearest call: as many of them as an object has calls must find room. */
    private static void takesOfTheRoom() throws Exception {
        Set<Object> seen = Collections.newSetFromMap(new IdentityHashMap<>());
        long elements = count(new SmellCustoms(), seen);
        Check.due("objects and arrays: " + seen.size(), seen.size() * 512L < 600_000, true);
        Check.due("fields and elements: " + elements, elements * 512 < 7_300_000, true);
    }

    private static long count(Object x, Set<Object> seen) throws Exception {
        if (x == null || !seen.add(x)) {
            return 0;
        }
        if (x.getClass().isArray()) {
            int length = Array.getLength(x);
            long sum = length;
            for (int i = 0; i < length && !x.getClass().getComponentType().isPrimitive(); i++) {
                sum += count(Array.get(x, i), seen);
            }
            return sum;
        }
        long sum = 0;
        for (Field field : x.getClass().getDeclaredFields()) {
            if (!Modifier.isStatic(field.getModifiers())) {
                sum++;
                field.setAccessible(true);
                sum += field.getType().isPrimitive() ? 0 : count(field.get(x), seen);
            }
        }
        return sum;
    }

    private static void dear(SmellCustoms x) {
        x.feed(1, 2, 3, 4, 5);
        x.border(20);
        x.rounds();
        x.posts();
        x.postOf(0);
        x.been();
        x.beenAt(0);
        x.rests(0, 3);
        x.rest(1, 2);
        x.cover(0, 2, 3);
        x.mustWait(0, 3);
        x.wayAt(1, 0, 3, 0);
        x.judge();
        x.wrongly();
        x.windDuty(0, 1, 5, 99);
        x.waits(0, 1);
        x.spray(0, 0, 99);
        x.wash(0);
        x.undo();
        x.mark();
        x.back(0);
    }
}

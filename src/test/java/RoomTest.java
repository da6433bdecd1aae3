import java.lang.management.ManagementFactory;
import java.lang.reflect.InvocationTargetException;
import java.lang.reflect.Method;

/** No call throws by itself whatever is put to it, and none makes anything that stays: all live in one room. */
public final class RoomTest {
    private static final int[] ODD = {Integer.MIN_VALUE, -1001, -129, -5, -2, -1, 0, 1, 4, 5, 7, 8, 9, 15, 16, 60, 61,
        99, 100, 101, 999, 1000, Integer.MAX_VALUE};

    private static int state = 7;

    public static void main(String[] args) {
        for (int run = 0; run < 12; run++) {
            oddCalls(mountain(run));
        }
        room();
        Due.end("RoomTest");
    }

    private static int below(int n) {
        state = state * 1664525 + 1013904223;
        return (int) ((state & 0xffffffffL) * n >>> 32);
    }

    /** From nothing at all to nine hungry beasts of poor people; every shelf holds something else. */
    private static WhoeverNamesIt mountain(int run) {
        WhoeverNamesIt x = new WhoeverNamesIt();
        for (int b = 0; b < run; b++) {
            Due.come(x, b % 8, b, (3 * b) % 16);
            x.calls(b % 5, b);
            x.tongue(b % 5, b % 4);
            x.means(b % 5, run);
        }
        for (int i = 0; run == 11 && i < 16; i++) {
            x.days(60);
        }
        x.row(0, 0, 100);
        x.row(1, 1, 7);
        x.row(2, 2, 0);
        x.keep(3, 1, run % 8, run % 10);
        Due.write(x, 4, "b0000;c00;d01;u0;g000;p0000000;");
        return x;
    }

    private static void oddCalls(WhoeverNamesIt x) {
        for (Method m : WhoeverNamesIt.class.getDeclaredMethods()) {
            if (java.lang.reflect.Modifier.isPublic(m.getModifiers())) {
                for (int i = 0; i < 150; i++) {
                    oddCall(x, m);
                }
            }
        }
    }

    private static void oddCall(WhoeverNamesIt x, Method m) {
        Object[] a = new Object[m.getParameterCount()];
        for (int i = 0; i < a.length; i++) {
            a[i] = below(2) == 0 ? below(9) : ODD[below(ODD.length)];
        }
        try {
            m.invoke(x, a);
        } catch (InvocationTargetException e) {
            Class<?> thrown = e.getCause().getClass();
            if (!m.getName().equals("element")
                || thrown != IllegalArgumentException.class && thrown != IllegalStateException.class) {
                Due.fault("promise " + m.getName() + java.util.Arrays.toString(a) + " threw " + e.getCause());
            }
        } catch (IllegalAccessException e) {
            Due.fault(m.getName() + " can't be called");
        }
    }

    /** The dearest calls, 512 of each, make nothing: what they need was made with the object. */
    private static void room() {
        WhoeverNamesIt x = mountain(9);
        for (int b = 0; b < 9; b++) {
            x.calls(0, b);
        }
        x.image();
        dearest(x);
        long before = bytes();
        dearest(x);
        long made = bytes() - before;
        if (made > 4096) {
            Due.fault("the dearest calls made " + made + " bytes");
        }
    }

    private static void dearest(WhoeverNamesIt x) {
        for (int i = 0; i < 512; i++) {
            x.letGo(0, 20);
            x.cover(1, 0);
            x.least(0, 20);
            x.whereFrom(0, 0);
            x.whatIs(0, 0, 0);
            x.whatIs(0, 0, 1);
            x.whose(0, 0);
            x.judge(0);
            x.still();
            x.stand(0, 20, 0);
            x.teach(0, 30, 0);
            x.exchange(20);
            x.two(0, 1, 30);
            x.snow(0, 7, 20, 0);
            x.mountains(20, 1, 0);
            x.restore();
            x.image();
            x.row(5, 2, 100);
            x.mountain(4);
            x.restore();
        }
    }

    private static long bytes() {
        return ((com.sun.management.ThreadMXBean) ManagementFactory.getThreadMXBean())
            .getThreadAllocatedBytes(Thread.currentThread().getId());
    }
}

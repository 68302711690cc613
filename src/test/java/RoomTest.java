import com.sun.management.ThreadMXBean;
import java.lang.management.ManagementFactory;

/** No call makes an object, and a new object stays small: all calls of one run live in one room. */
public final class RoomTest {
    private static final long MOST_BYTES_OF_AN_OBJECT = 12_000;
    private static final String DEEDS = "p0r5AB;r0d3BC;t1d4AC", RULES = "p2wh;r1h;t3";
    private static final ThreadMXBean MEASURE = (ThreadMXBean) ManagementFactory.getThreadMXBean();

    public static void main(String[] args) {
        useAll(new SecondChances());
        long thread = Thread.currentThread().getId();
        long start = MEASURE.getThreadAllocatedBytes(thread);
        long nothing = MEASURE.getThreadAllocatedBytes(thread) - start;

        start = MEASURE.getThreadAllocatedBytes(thread);
        SecondChances x = new SecondChances();
        long made = MEASURE.getThreadAllocatedBytes(thread) - start - nothing;

        start = MEASURE.getThreadAllocatedBytes(thread);
        useAll(x);
        long calls = MEASURE.getThreadAllocatedBytes(thread) - start - nothing;

        System.out.println("a new object takes " + made + " bytes, its calls " + calls);
        if (made > MOST_BYTES_OF_AN_OBJECT || calls > 0) {
            System.out.println("that is too much: " + MOST_BYTES_OF_AN_OBJECT + " and 0 are the most");
            System.exit(1);
        }
    }

    private static void useAll(SecondChances x) {
        for (int i = 0; i < DEEDS.length(); i++) {
            x.type(0, DEEDS.charAt(i));
        }
        for (int i = 0; i < RULES.length(); i++) {
            x.type(1, RULES.charAt(i));
        }
        for (int i = -1; i < 9; i++) {
            x.fault(i);
            x.deed(i, 4);
            x.rule(i, 0);
            x.person(i, 3, 4);
            x.weather(i, 1);
            x.set(i, 1);
            x.sheet(i, 2, 60);
            x.put(i, 2, i, 1);
            x.get(i, 2, i);
            x.copy(i, 0, 0, 1, 50);
            x.read(i);
            x.can(i, 3);
            x.hours(i);
            x.comes(i, 2);
            x.costs(i, 2);
            x.most(i);
            x.when(i);
            x.write(i);
            x.plan(i, 2);
            x.asked(i, 2);
            x.crowd(i);
            x.likeness(i, 2);
            x.odds(i, 2, 1);
            x.seen(i, 0, 2);
            x.isFalse(i, 2);
            x.hats(i);
            x.after(i, 2);
            x.spared(i);
            x.best();
            x.regrets(i, 1);
            x.lose(i);
            x.count(i);
            x.digest();
        }
        x.forget(0);
        x.forget(1);
        x.wipe(0);
        x.wipe(1);
    }
}

import com.sun.management.ThreadMXBean;
import java.lang.management.ManagementFactory;
import java.util.function.ToLongFunction;

/**
 * All calls of one run live in one room of some 600,000 objects and 7.3 million elements: the
 * dearest call, 512 times, must find room there.
 */
public final class RoomTest {
    private static final ThreadMXBean BEAN = (ThreadMXBean) ManagementFactory.getThreadMXBean();
    private static final long ROOM = 600_000L * 16 + 7_300_000L * 4;
    private static final int CALLS = 512;

    private static long sum = 0;

    private RoomTest() {
    }

    public static void main(String[] args) {
        room("treaty", x -> x.treaty(7));
        room("drinker, waker", x -> x.drinker(1, 4) + x.waker(1, 0));
        room("comes, wakes", x -> x.comes(2, 9) + x.wakes(0, 2));
        room("tires, sleeps, bags", x -> x.tires(3, 40) + x.sleeps(2) + x.bags(900));
        room("days", x -> x.days(2));
        room("owesThen", x -> x.owesThen(1, 60));
        room("tiredThen", x -> x.tiredThen(2, 60));
        room("then", x -> x.then(60, 2));
        room("firstAsleep", x -> x.firstAsleep(4));
        room("out", x -> x.out());
        room("bestWaker", x -> x.bestWaker(1, 60, 1));
        room("match", x -> x.match(-1));
        room("match of the last", x -> x.match(6));
        room("milk", x -> x.milk(30));
        room("fewest", x -> x.fewest(30));
        room("store", x -> x.store(60));
        room("heaviest", x -> x.heaviest(0) + x.heaviest(3));
        room("rest", x -> x.rest(30, 1));
        room("whatIs", x -> x.whatIs(0, 2, 1));
        room("shed", x -> x.shed(0, 2));
        room("two", x -> x.two(1, 4, 30));
        room("falls", x -> x.falls(7, 20, 200, 0));
        room("mean", x -> x.mean(0));
        room("forged", x -> x.forged(0));
        room("judge", x -> x.judge(0));
        room("years", x -> x.years(20, 7, 0));
        room("image, restore, count", x -> x.image() + x.restore() + x.count(3));
        room("keep", x -> x.keep(3, 1, 2, 2));
        room("row", x -> x.row(4, 2, 100));
        room("put, element", x -> x.put(0, 4, 70000) + x.element(0, 4));
        room("copy", x -> x.copy(0, 0, 1, 5, 90));
        room("cost, toss", x -> x.cost(2) + x.toss(2));
        Due.holds("calls were made", sum != 0);
        Due.close();
    }

    private static BeansOnTheOtherSide busy() {
        BeansOnTheOtherSide x = Rows.after("k001;k112;k273;k354;k480;k531;k699;b999;d04;");
        Rows.tellHundred(x, 0, Rows.SHORTS, -32768, -32768);
        x.row(1, 1, 100);
        x.keep(2, 1, 7, 3);
        return x;
    }

    /** The machine makes a little of its own now and then: the least of several counts. */
    private static void room(String name, ToLongFunction<BeansOnTheOtherSide> call) {
        long least = Long.MAX_VALUE;
        for (int i = 0; i < 5; i++) {
            BeansOnTheOtherSide x = busy();
            long before = made();
            sum += call.applyAsLong(x);
            least = Math.min(least, made() - before);
        }
        Due.holds(name + " makes " + least + " bytes", least * CALLS <= ROOM);
    }

    private static long made() {
        return BEAN.getThreadAllocatedBytes(Thread.currentThread().getId());
    }
}

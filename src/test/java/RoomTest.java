import com.sun.management.ThreadMXBean;
import java.lang.management.ManagementFactory;

/** No call makes anything anew: all calls of one run live in one room. */
public final class RoomTest {
    private static final ThreadMXBean BEAN = (ThreadMXBean) ManagementFactory.getThreadMXBean();

    private RoomTest() {
    }

    public static void main(String[] args) {
        BeansOnTheOtherSide x = Rows.after("k001;k112;k273;k354;k480;k531;k699;b999;d04;");
        x.row(0, 1, 100);
        x.row(1, 1, 100);
        x.keep(2, 1, 7, 3);
        allCalls(x);
        // The machine makes a little of its own now and then: the least of several counts.
        long least = Long.MAX_VALUE;
        for (int i = 0; i < 5; i++) {
            long before = made();
            allCalls(x);
            least = Math.min(least, made() - before);
        }
        Due.is("bytes made by all calls", least, 0);
        Due.close();
    }

    private static long made() {
        return BEAN.getThreadAllocatedBytes(Thread.currentThread().getId());
    }

    private static void allCalls(BeansOnTheOtherSide x) {
        long sum = x.treaty(7) + x.drinker(1, 4) + x.waker(1, 0) + x.comes(2, 9) + x.wakes(0, 2);
        sum += x.tires(3, 40) + x.sleeps(2) + x.bags(900) + x.days(2) + x.owesThen(1, 60);
        sum += x.tiredThen(2, 60) + x.then(60, 2) + x.firstAsleep(4) + x.out();
        sum += x.bestWaker(1, 60, 1) + x.match(-1) + x.match(6) + x.milk(30) + x.fewest(30);
        sum += x.store(60) + x.heaviest(0) + x.rest(30, 1) + x.whatIs(0, 2, 1) + x.shed(0, 2);
        sum += x.two(1, 4, 30) + x.falls(7, 20, 200, 0) + x.mean(0) + x.forged(0) + x.judge(0);
        sum += x.years(20, 7, 0) + x.image() + x.restore() + x.count(3) + x.keep(3, 1, 2, 2);
        sum += x.row(4, 2, 100) + x.put(0, 4, 70000) + x.element(0, 4) + x.copy(0, 0, 1, 5, 90);
        sum += x.cost(2) + x.toss(2);
        Due.holds("a sum", sum != 0);
    }
}

import java.util.function.Supplier;

/**
 * Each argument of each call: every number of its range is taken, those just outside it (and far
 * outside) are refused, and what is refused changes nothing.
 */
public final class RangesTest {
    private interface Asked {
        long of(BeansOnTheOtherSide x, int v);
    }

    private static final long NO_SUCH = -1;
    private static final long NO_SUCH_LONG = 1000000001L;
    private static final String SEVEN = "k001;k142;k283;k309;k454;k560;k691;";

    private RangesTest() {
    }

    public static void main(String[] args) {
        theTreatyAsTold();
        wakerOrNobody();
        daysOn();
        whoShouldWake();
        whatKindAndShed();
        fallsAndMean();
        foliosAndYears();
        shelves();
        fewerDrinkers();
        Due.close();
    }

    /** Seven DRINKERS, and on each SHELF a ROW of bytes that is a treaty. */
    private static BeansOnTheOtherSide sevenAndRows() {
        BeansOnTheOtherSide x = Rows.after(SEVEN);
        for (int d = 0; d < 8; d++) {
            Rows.tell(x, d, Rows.BYTES, 'z', '1', ';');
        }
        return x;
    }

    /** Two DRINKERS, and on each SHELF a KIND that can fail. */
    private static BeansOnTheOtherSide twoAndKinds() {
        BeansOnTheOtherSide x = Rows.after("k001;k142;");
        for (int d = 0; d < 8; d++) {
            Due.is("keep(" + d + ")", x.keep(d, 1, d == 3 || d == 7 ? 0 : d, 1 + d), 0);
        }
        return x;
    }

    private static int[] numbersOutside(int least, int greatest) {
        int[] all = {least - 2, least - 1, greatest + 1, greatest + 2, least - 256, greatest + 256,
            256 + least, 65536 + least, least - 65536, Integer.MIN_VALUE, Integer.MIN_VALUE + 1,
            Integer.MIN_VALUE + 8, Integer.MAX_VALUE, Integer.MAX_VALUE - 1};
        return java.util.Arrays.stream(all).filter(v -> v < least || v > greatest).toArray();
    }

    private static void taken(String call, BeansOnTheOtherSide x, int v, Asked asked, long refusal) {
        Due.holds(call + " takes " + v, asked.of(x, v) != refusal);
    }

    private static void refused(String call, BeansOnTheOtherSide x, int v, Asked asked, long refusal) {
        String before = State.of(x);
        Due.is(call + " refuses " + v, asked.of(x, v), refusal);
        Due.holds(call + " with " + v + " changes nothing", before.equals(State.of(x)));
    }

    private static void range(String call, int least, int greatest, long refusal,
        Supplier<BeansOnTheOtherSide> made, Asked asked) {
        for (int v = least; v <= greatest; v++) {
            taken(call, made.get(), v, asked, refusal);
        }
        for (int v : numbersOutside(least, greatest)) {
            refused(call, made.get(), v, asked, refusal);
        }
    }

    private static void range(String call, int least, int greatest, Asked asked) {
        range(call, least, greatest, NO_SUCH, RangesTest::sevenAndRows, asked);
    }

    private static void rangeOfKinds(String call, int least, int greatest, Asked asked) {
        range(call, least, greatest, NO_SUCH, RangesTest::twoAndKinds, asked);
    }

    private static void rangeOfLongs(String call, int least, int greatest, Asked asked) {
        range(call, least, greatest, NO_SUCH_LONG, RangesTest::sevenAndRows, asked);
    }

    private static void theTreatyAsTold() {
        range("treaty d", 0, 7, (x, v) -> x.treaty(v));
        range("drinker k", 0, 6, (x, v) -> x.drinker(v, 0));
        range("drinker what", 0, 4, (x, v) -> x.drinker(6, v));
        range("waker w", 0, 4, (x, v) -> x.waker(v, 0));
        range("waker what", 0, 2, (x, v) -> x.waker(4, v));
        rangeOfKinds("comes d", 0, 7, (x, v) -> x.comes(v, 9));
        range("wakes k", 0, 6, (x, v) -> x.wakes(v, 9));
        range("tires w", 0, 4, (x, v) -> x.tires(v, 99));
        range("tires t", 0, 99, (x, v) -> x.tires(4, v));
        range("sleeps w", 0, 4, (x, v) -> x.sleeps(v));
        range("bags b", 0, 999, (x, v) -> x.bags(v));
        range("days n", 1, 60, (x, v) -> x.days(v));
    }

    private static void wakerOrNobody() {
        for (int v = -3; v <= 20; v++) {
            Asked comes = (x, w) -> x.comes(7, w);
            Asked wakes = (x, w) -> x.wakes(1, w);
            if (v >= 0 && v <= 4 || v == 9) {
                taken("comes w", twoAndKinds(), v, comes, NO_SUCH);
                taken("wakes w", twoAndKinds(), v, wakes, NO_SUCH);
            } else {
                refused("comes w", twoAndKinds(), v, comes, NO_SUCH);
                refused("wakes w", twoAndKinds(), v, wakes, NO_SUCH);
            }
        }
        for (int v : numbersOutside(0, 9)) {
            refused("comes w", twoAndKinds(), v, (x, w) -> x.comes(7, w), NO_SUCH);
            refused("wakes w", twoAndKinds(), v, (x, w) -> x.wakes(1, w), NO_SUCH);
        }
    }

    private static void daysOn() {
        range("owesThen k", 0, 6, (x, v) -> x.owesThen(v, 60));
        range("owesThen n", 0, 60, (x, v) -> x.owesThen(6, v));
        range("tiredThen w", 0, 4, (x, v) -> x.tiredThen(v, 60));
        range("tiredThen n", 0, 60, (x, v) -> x.tiredThen(4, v));
        range("then n", 0, 60, (x, v) -> x.then(v, 2));
        range("then what", 0, 2, (x, v) -> x.then(60, v));
        range("firstAsleep w", 0, 4, (x, v) -> x.firstAsleep(v));
    }

    private static void whoShouldWake() {
        range("bestWaker k", 0, 6, (x, v) -> x.bestWaker(v, 60, 0));
        range("bestWaker n", 0, 60, (x, v) -> x.bestWaker(6, v, 0));
        range("bestWaker what", 0, 1, (x, v) -> x.bestWaker(6, 60, v));
        range("match k", -1, 6, (x, v) -> x.match(v));
        range("milk n", 0, 30, (x, v) -> x.milk(v));
        range("fewest n", 0, 30, (x, v) -> x.fewest(v));
        range("store n", 0, 60, (x, v) -> x.store(v));
        range("heaviest what", 0, 3, (x, v) -> x.heaviest(v));
        range("rest n", 1, 30, (x, v) -> x.rest(v, 0));
        range("rest what", 0, 1, (x, v) -> x.rest(30, v));
    }

    private static void whatKindAndShed() {
        range("whatIs d", 0, 7, (x, v) -> x.whatIs(v, 6, 0));
        range("whatIs k", 0, 6, (x, v) -> x.whatIs(7, v, 0));
        range("whatIs what", 0, 1, (x, v) -> x.whatIs(7, 6, v));
        range("shed d", 0, 7, (x, v) -> x.shed(v, 0));
        range("shed what", 0, 2, (x, v) -> x.shed(7, v));
        range("two a", 0, 5, (x, v) -> x.two(v, 6, 30));
        range("two b", 1, 6, (x, v) -> x.two(0, v, 30));
        range("two n", 1, 30, (x, v) -> x.two(5, 6, v));
        for (int k = 0; k < 7; k++) {
            refused("two, one twice", sevenAndRows(), k, (x, v) -> x.two(v, v, 1), NO_SUCH);
        }
    }

    private static void fallsAndMean() {
        rangeOfLongs("falls n", 0, 7, (x, v) -> x.falls(v, 20, 999, 0));
        rangeOfLongs("falls t", 2, 20, (x, v) -> x.falls(7, v, 999, 0));
        rangeOfLongs("falls v", 0, 999, (x, v) -> x.falls(1, 20, v, 0));
        rangeOfLongs("falls part", 0, 1, (x, v) -> x.falls(7, 2, 0, v));
        rangeOfLongs("mean part", 0, 1, (x, v) -> x.mean(v));
    }

    private static void foliosAndYears() {
        range("forged d", 0, 7, (x, v) -> x.forged(v));
        range("judge d", 0, 7, (x, v) -> x.judge(v));
        range("years n", 1, 20, (x, v) -> x.years(v, 5, 0));
        range("years what", 0, 1, (x, v) -> x.years(20, 5, v));
        range("count what", 0, 5, (x, v) -> x.count(v));
        int[] seeds = {0, 1, -1, 65535, 65536, Integer.MIN_VALUE, Integer.MAX_VALUE};
        for (int z : seeds) {
            taken("years z", sevenAndRows(), z, (x, v) -> x.years(1, v, 0), NO_SUCH);
        }
    }

    private static void shelves() {
        range("keep d", 0, 7, (x, v) -> x.keep(v, 1, 0, 0));
        range("keep d, nothing", 0, 7, (x, v) -> x.keep(v, 0, 0, 0));
        range("keep what", 0, 1, (x, v) -> x.keep(0, v, 0, 0));
        range("keep k", 0, 7, (x, v) -> x.keep(0, 1, v, 9));
        range("keep figure", 0, 9, (x, v) -> x.keep(0, 1, 7, v));
        range("row d", 0, 7, (x, v) -> x.row(v, 2, 100));
        range("row sort", 0, 2, (x, v) -> x.row(7, v, 100));
        for (int n = 0; n <= 100; n++) {
            Due.is("row takes n " + n, sevenAndRows().row(7, 0, n), 0);
        }
        for (int n : new int[] {101, 102, 255, 256, 65536, Integer.MAX_VALUE}) {
            refused("row n", sevenAndRows(), n, (x, v) -> x.row(7, 0, v), NO_SUCH);
        }
        for (int n : new int[] {-1, -2, -100, -128, -256, Integer.MIN_VALUE}) {
            refused("row n", sevenAndRows(), n, (x, v) -> x.row(7, 0, v), -14);
        }
        range("put d", 0, 7, (x, v) -> x.put(v, 2, 5));
        range("put i", 0, 2, -13, RangesTest::sevenAndRows, (x, v) -> x.put(7, v, 5));
        range("copy d", 0, 7, (x, v) -> x.copy(v, 0, 1, 0, 3));
        range("copy e", 0, 7, (x, v) -> x.copy(1, 0, v, 0, 3));
        range("copy i", 0, 3, -13, RangesTest::sevenAndRows, (x, v) -> x.copy(1, v, 2, 0, 0));
        range("copy j", 0, 3, -13, RangesTest::sevenAndRows, (x, v) -> x.copy(1, 0, 2, v, 0));
        range("copy n", 0, 3, -13, RangesTest::sevenAndRows, (x, v) -> x.copy(1, 0, 2, 0, v));
        rangeOfKinds("cost d", 0, 7, (x, v) -> x.cost(v));
        rangeOfKinds("toss d", 0, 7, (x, v) -> x.toss(v));
    }

    /** "No such one" is told by those who have come, not by the seven who may. */
    private static void fewerDrinkers() {
        for (int people = 0; people < 7; people++) {
            String text = people == 0 ? "z1;z1;" : SEVEN.substring(0, 5 * people);
            int many = people;
            Supplier<BeansOnTheOtherSide> made = () -> {
                BeansOnTheOtherSide x = Rows.after(text);
                x.row(0, 0, 1);
                return x;
            };
            String of = " of " + people;
            range("drinker k" + of, 0, many - 1, NO_SUCH, made, (x, v) -> x.drinker(v, 0));
            range("wakes k" + of, 0, many - 1, NO_SUCH, made, (x, v) -> x.wakes(v, 0));
            range("owesThen k" + of, 0, many - 1, NO_SUCH, made, (x, v) -> x.owesThen(v, 1));
            range("bestWaker k" + of, 0, many - 1, NO_SUCH, made, (x, v) -> x.bestWaker(v, 1, 0));
            range("match k" + of, -1, many - 1, NO_SUCH, made, (x, v) -> x.match(v));
            range("whatIs k" + of, 0, many - 1, NO_SUCH, made, (x, v) -> x.whatIs(0, v, 0));
            range("two a" + of, 0, many - 2, NO_SUCH, made, (x, v) -> x.two(v, many - 1, 1));
            range("two b" + of, 0, many - 2, NO_SUCH, made, (x, v) -> x.two(many - 1, v, 1));
        }
    }
}

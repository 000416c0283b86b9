/** SHELVES that hold nothing or another kind, and calls of which several refusals are true. */
public final class RefusalsTest {
    private interface Asked {
        long of(BeansOnTheOtherSide x);
    }

    private static final long REFUSED = 1000000001L;
    private static final int ILLEGAL_ARGUMENT = 1;
    private static final int ILLEGAL_STATE = 2;

    /** What stands on these SHELVES of full(). */
    private static final int NOTHING = 0;
    private static final int KIND = 1;
    private static final int BYTES = 2;
    private static final int SHORTS = 3;
    private static final int INTS = 4;
    private static final int EMPTY = 5;
    private static final int HUNDRED = 6;

    private RefusalsTest() {
    }

    public static void main(String[] args) {
        theTreaty();
        comesInTheirOrder();
        wakesTiresAndBags();
        daysInTheirOrder();
        inMind();
        toldRows();
        longs();
        restoreWithoutImage();
        keepAndRow();
        put();
        element();
        copyInTheirOrder();
        copyOfPlaces();
        costAndToss();
        Due.close();
    }

    /** Seven DRINKERS on DAY 999, and a SHELF of each sort; SHELF 7 is of a FAILURE that is none. */
    private static BeansOnTheOtherSide full() {
        BeansOnTheOtherSide x = Rows.onDay(999, "k001;k142;k283;k309;k454;k560;k691;");
        x.keep(NOTHING, 0, 0, 0);
        x.keep(KIND, 1, 2, 3);
        Rows.tell(x, BYTES, Rows.BYTES, 'z', '1', ';');
        Rows.tell(x, SHORTS, Rows.SHORTS, 'z', '1', ';');
        Rows.tell(x, INTS, Rows.INTS, 'z', '1', ';');
        x.row(EMPTY, Rows.BYTES, 0);
        x.row(HUNDRED, Rows.BYTES, 100);
        x.keep(7, 1, 3, 5);
        return x;
    }

    private static void refused(String call, long want, Asked asked) {
        BeansOnTheOtherSide x = full();
        String before = State.of(x);
        Due.is(call, asked.of(x), want);
        Due.holds(call + " changes nothing", before.equals(State.of(x)));
    }

    private static void theTreaty() {
        refused("treaty(-1)", -1, x -> x.treaty(-1));
        refused("treaty(8)", -1, x -> x.treaty(8));
        refused("treaty of nothing", -11, x -> x.treaty(NOTHING));
        refused("treaty of a KIND", -12, x -> x.treaty(KIND));
        refused("treaty of shorts", -12, x -> x.treaty(SHORTS));
        refused("treaty of ints", -12, x -> x.treaty(INTS));
        refused("treaty of an empty ROW", -1000, x -> x.treaty(EMPTY));
        refused("treaty of 100 bytes that are 0", -1000, x -> x.treaty(HUNDRED));
        Due.is("treaty of bytes", full().treaty(BYTES), 1);
    }

    private static void comesInTheirOrder() {
        refused("no room", -2, x -> x.comes(KIND, 9));
        refused("no WAKER ahead of no room", -1, x -> x.comes(KIND, 5));
        refused("no WAKER ahead of nothing", -1, x -> x.comes(NOTHING, 8));
        refused("no WAKER ahead of a ROW", -1, x -> x.comes(BYTES, 10));
        refused("no SHELF and no WAKER", -1, x -> x.comes(8, -1));
        refused("no SHELF ahead of no room", -1, x -> x.comes(-1, 0));
        refused("nothing ahead of no room", -11, x -> x.comes(NOTHING, 4));
        refused("a ROW ahead of no room", -12, x -> x.comes(BYTES, 4));
        refused("an empty ROW ahead of no room", -12, x -> x.comes(EMPTY, 9));
    }

    private static void wakesTiresAndBags() {
        refused("no such DRINKER, no such WAKER", -1, x -> x.wakes(7, 5));
        refused("no such DRINKER", -1, x -> x.wakes(7, 9));
        refused("no such WAKER", -1, x -> x.wakes(0, 5));
        refused("nobody is not TIRED", -1, x -> x.tires(9, 0));
        refused("no such WAKER, TIRED 100", -1, x -> x.tires(5, 100));
        refused("TIRED 100", -1, x -> x.tires(4, 100));
        refused("nobody does not sleep", -1, x -> x.sleeps(9));
        refused("1000 BAGS", -1, x -> x.bags(1000));
        refused("BAGS below 0", -1, x -> x.bags(-1));
    }

    private static void daysInTheirOrder() {
        refused("a DAY above 999", -3, x -> x.days(1));
        refused("60 DAYS above 999", -3, x -> x.days(60));
        refused("0 DAYS ahead of a DAY above 999", -1, x -> x.days(0));
        refused("61 DAYS ahead of a DAY above 999", -1, x -> x.days(61));
        refused("DAYS that overflow", -1, x -> x.days(Integer.MAX_VALUE));
        refused("DAYS back", -1, x -> x.days(-1));
        refused("many DAYS back", -1, x -> x.days(Integer.MIN_VALUE));
    }

    private static void inMind() {
        refused("owesThen", -1, x -> x.owesThen(7, 61));
        refused("tiredThen", -1, x -> x.tiredThen(9, 0));
        refused("then", -1, x -> x.then(61, 3));
        refused("firstAsleep", -1, x -> x.firstAsleep(9));
        refused("bestWaker", -1, x -> x.bestWaker(7, 61, 2));
        refused("match", -1, x -> x.match(-2));
        refused("rest", -1, x -> x.rest(0, 2));
        refused("two, one twice", -1, x -> x.two(3, 3, 5));
        refused("two, one who has not come, twice", -1, x -> x.two(7, 7, 0));
        refused("years", -1, x -> x.years(21, 0, 2));
        refused("drinker", -1, x -> x.drinker(7, 5));
        refused("waker", -1, x -> x.waker(5, 3));
    }

    private static void toldRows() {
        refused("whatIs: nothing", -11, x -> x.whatIs(NOTHING, 6, 1));
        refused("whatIs: a KIND", -12, x -> x.whatIs(KIND, 6, 1));
        refused("whatIs: no DRINKER ahead of nothing", -1, x -> x.whatIs(NOTHING, 7, 1));
        refused("whatIs: no DRINKER ahead of a KIND", -1, x -> x.whatIs(KIND, -1, 1));
        refused("whatIs: no such what ahead of nothing", -1, x -> x.whatIs(NOTHING, 6, 2));
        refused("whatIs: no such what ahead of a KIND", -1, x -> x.whatIs(KIND, 6, -1));
        refused("whatIs: all of it", -1, x -> x.whatIs(8, 7, 2));
        refused("shed: nothing", -11, x -> x.shed(NOTHING, 2));
        refused("shed: a KIND", -12, x -> x.shed(KIND, 2));
        refused("shed: no such what ahead of nothing", -1, x -> x.shed(NOTHING, 3));
        refused("shed: no such what ahead of a KIND", -1, x -> x.shed(KIND, -1));
        refused("shed: no SHELF, no such what", -1, x -> x.shed(-1, 3));
        refused("forged: no SHELF", -1, x -> x.forged(8));
        refused("forged: nothing", -11, x -> x.forged(NOTHING));
        refused("forged: a KIND", -12, x -> x.forged(KIND));
        refused("judge: no SHELF", -1, x -> x.judge(-1));
        refused("judge: nothing", -11, x -> x.judge(NOTHING));
        refused("judge: a KIND", -12, x -> x.judge(KIND));
        for (int d : new int[] {BYTES, SHORTS, INTS, EMPTY, HUNDRED}) {
            Due.holds("whatIs takes a ROW of any SORT", full().whatIs(d, 6, 0) >= 0);
            Due.holds("shed takes a ROW of any SORT", full().shed(d, 0) >= 0);
            Due.holds("forged takes a ROW of any SORT", full().forged(d) >= -4);
            Due.holds("judge takes a ROW of any SORT", full().judge(d) >= -4);
        }
    }

    private static void longs() {
        refused("falls: all of it", REFUSED, x -> x.falls(8, 21, 1000, 2));
        refused("falls: 8 DAYS", REFUSED, x -> x.falls(8, 20, 999, 1));
        refused("falls: 1 in 1", REFUSED, x -> x.falls(7, 1, 999, 1));
        refused("falls: 1000", REFUSED, x -> x.falls(7, 20, 1000, 1));
        refused("falls: part 2", REFUSED, x -> x.falls(7, 20, 999, 2));
        refused("mean: part 2", REFUSED, x -> x.mean(2));
        refused("mean: part -1", REFUSED, x -> x.mean(-1));
    }

    private static void restoreWithoutImage() {
        refused("no IMAGE", -3, x -> x.restore());
        BeansOnTheOtherSide x = new BeansOnTheOtherSide();
        Due.is("no IMAGE of a new object", x.restore(), -3);
        Due.is("no IMAGE, once more", x.restore(), -3);
        x.image();
        Due.is("there is one", x.restore(), 0);
    }

    private static void keepAndRow() {
        refused("keep: no SHELF", -1, x -> x.keep(8, 0, 0, 0));
        refused("keep: all of it", -1, x -> x.keep(-1, 2, 8, 10));
        refused("keep: no such what", -1, x -> x.keep(KIND, 2, 0, 0));
        refused("keep: what -1", -1, x -> x.keep(BYTES, -1, 0, 0));
        refused("keep: KIND 8", -1, x -> x.keep(KIND, 1, 8, 0));
        refused("keep: FIGURE 10", -1, x -> x.keep(BYTES, 1, 0, 10));
        refused("row: below 0", -14, x -> x.row(BYTES, 0, -1));
        refused("row: far below 0", -14, x -> x.row(KIND, 2, Integer.MIN_VALUE));
        refused("row: no SHELF ahead of below 0", -1, x -> x.row(8, 0, -1));
        refused("row: no SORT ahead of below 0", -1, x -> x.row(BYTES, 3, -1));
        refused("row: SORT -1 ahead of below 0", -1, x -> x.row(BYTES, -1, -1));
        refused("row: above 100", -1, x -> x.row(HUNDRED, 0, 101));
        refused("row: all of it", -1, x -> x.row(-1, 3, 101));
    }

    private static void put() {
        refused("put: no SHELF ahead of no place", -1, x -> x.put(8, -1, 1));
        refused("put: nothing ahead of no place", -11, x -> x.put(NOTHING, -1, 1));
        refused("put: a KIND ahead of no place", -12, x -> x.put(KIND, 100, 1));
        refused("put: nothing", -11, x -> x.put(NOTHING, 0, 1));
        refused("put: a KIND", -12, x -> x.put(KIND, 0, 1));
        refused("put: place 3 of 3", -13, x -> x.put(BYTES, 3, 1));
        refused("put: place -1", -13, x -> x.put(BYTES, -1, 1));
        refused("put: place 0 of none", -13, x -> x.put(EMPTY, 0, 1));
        refused("put: place 100 of 100", -13, x -> x.put(HUNDRED, 100, 1));
        Due.is("put: place 99 of 100", full().put(HUNDRED, 99, 1), 0);
        Due.is("put: place 2 of 3", full().put(BYTES, 2, 1), 0);
    }

    private static int thrownBy(BeansOnTheOtherSide x, int d, int i) {
        try {
            x.element(d, i);
            return 0;
        } catch (IllegalArgumentException e) {
            return ILLEGAL_ARGUMENT;
        } catch (IllegalStateException e) {
            return ILLEGAL_STATE;
        }
    }

    private static void element() {
        refused("element: no SHELF", ILLEGAL_ARGUMENT, x -> thrownBy(x, 8, 0));
        refused("element: SHELF -1", ILLEGAL_ARGUMENT, x -> thrownBy(x, -1, 0));
        refused("element: no SHELF ahead of no place", ILLEGAL_ARGUMENT, x -> thrownBy(x, 8, -1));
        refused("element: far off", ILLEGAL_ARGUMENT, x -> thrownBy(x, Integer.MAX_VALUE, 500));
        refused("element: far below", ILLEGAL_ARGUMENT, x -> thrownBy(x, Integer.MIN_VALUE, 0));
        refused("element: nothing", ILLEGAL_STATE, x -> thrownBy(x, NOTHING, 0));
        refused("element: nothing, no place", ILLEGAL_STATE, x -> thrownBy(x, NOTHING, -1));
        refused("element: a KIND", ILLEGAL_STATE, x -> thrownBy(x, KIND, 0));
        refused("element: place 3 of 3", ILLEGAL_STATE, x -> thrownBy(x, BYTES, 3));
        refused("element: place -1", ILLEGAL_STATE, x -> thrownBy(x, BYTES, -1));
        refused("element: place 0 of none", ILLEGAL_STATE, x -> thrownBy(x, EMPTY, 0));
        refused("element: place 100 of 100", ILLEGAL_STATE, x -> thrownBy(x, HUNDRED, 100));
        refused("element: the last place", ILLEGAL_STATE, x -> thrownBy(x, INTS, Integer.MAX_VALUE));
        refused("element: the first place", ILLEGAL_STATE, x -> thrownBy(x, INTS, Integer.MIN_VALUE));
        Due.is("element: place 99 of 100", thrownBy(full(), HUNDRED, 99), 0);
        Due.is("element: place 2 of 3", full().element(BYTES, 2), ';');
        BeansOnTheOtherSide x = full();
        x.keep(BYTES, 1, 0, 0);
        Due.is("element: a KIND in place of a ROW", thrownBy(x, BYTES, 0), ILLEGAL_STATE);
        x.keep(SHORTS, 0, 0, 0);
        Due.is("element: nothing in place of a ROW", thrownBy(x, SHORTS, 0), ILLEGAL_STATE);
    }

    private static void copyInTheirOrder() {
        refused("copy: no SHELF ahead of nothing", -1, x -> x.copy(8, -1, NOTHING, -1, -1));
        refused("copy: no SHELF there ahead of nothing", -1, x -> x.copy(NOTHING, -1, 8, -1, -1));
        refused("copy: no SHELF ahead of a KIND", -1, x -> x.copy(KIND, 0, -1, 0, 0));
        refused("copy: no SHELF there ahead of no place", -1, x -> x.copy(BYTES, 9, -1, 9, -1));
        refused("copy: no SHELF ahead of no place", -1, x -> x.copy(8, 9, BYTES, 9, -1));
        refused("copy: nothing here", -11, x -> x.copy(NOTHING, 0, BYTES, 0, 1));
        refused("copy: nothing there", -11, x -> x.copy(BYTES, 0, NOTHING, 0, 1));
        refused("copy: nothing, from itself to itself", -11, x -> x.copy(NOTHING, 0, NOTHING, 0, 0));
        refused("copy: nothing here ahead of a KIND", -11, x -> x.copy(NOTHING, 0, KIND, 0, 0));
        refused("copy: nothing there ahead of a KIND", -11, x -> x.copy(KIND, 0, NOTHING, 0, 0));
        refused("copy: nothing here ahead of no place", -11, x -> x.copy(NOTHING, -1, BYTES, 9, -1));
        refused("copy: nothing there ahead of no place", -11, x -> x.copy(BYTES, -1, NOTHING, 9, -1));
        refused("copy: a KIND here", -12, x -> x.copy(KIND, 0, BYTES, 0, 1));
        refused("copy: a KIND there", -12, x -> x.copy(BYTES, 0, KIND, 0, 1));
        refused("copy: KINDS", -12, x -> x.copy(KIND, 0, 7, 0, 0));
        refused("copy: a KIND here ahead of no place", -12, x -> x.copy(KIND, -1, BYTES, 9, -1));
        refused("copy: a KIND there ahead of no place", -12, x -> x.copy(BYTES, -1, KIND, 9, -1));
        refused("copy: bytes to shorts", -12, x -> x.copy(BYTES, 0, SHORTS, 0, 1));
        refused("copy: shorts to ints", -12, x -> x.copy(SHORTS, 0, INTS, 0, 1));
        refused("copy: ints to bytes", -12, x -> x.copy(INTS, 0, BYTES, 0, 1));
        refused("copy: none of another SORT", -12, x -> x.copy(INTS, 0, SHORTS, 0, 0));
        refused("copy: another SORT ahead of no place", -12, x -> x.copy(SHORTS, -1, BYTES, 9, -1));
    }

    private static void copyOfPlaces() {
        refused("copy: n below 0", -13, x -> x.copy(BYTES, 1, BYTES, 1, -1));
        refused("copy: n far below 0", -13, x -> x.copy(BYTES, 1, BYTES, 1, Integer.MIN_VALUE));
        refused("copy: 1 from place 3 of 3", -13, x -> x.copy(BYTES, 3, HUNDRED, 0, 1));
        refused("copy: 3 from place 1 of 3", -13, x -> x.copy(BYTES, 1, HUNDRED, 0, 3));
        refused("copy: 4 of 3", -13, x -> x.copy(BYTES, 0, HUNDRED, 0, 4));
        refused("copy: from place -1", -13, x -> x.copy(BYTES, -1, HUNDRED, 0, 1));
        refused("copy: to place -1", -13, x -> x.copy(BYTES, 0, HUNDRED, -1, 1));
        refused("copy: to place 100 of 100", -13, x -> x.copy(BYTES, 0, HUNDRED, 100, 1));
        refused("copy: 3 to place 98 of 100", -13, x -> x.copy(BYTES, 0, HUNDRED, 98, 3));
        refused("copy: 1 to an empty ROW", -13, x -> x.copy(BYTES, 0, EMPTY, 0, 1));
        refused("copy: 1 from an empty ROW", -13, x -> x.copy(EMPTY, 0, BYTES, 0, 1));
        refused("copy: none from beyond", -13, x -> x.copy(BYTES, 4, HUNDRED, 0, 0));
        refused("copy: none to beyond", -13, x -> x.copy(BYTES, 0, HUNDRED, 101, 0));
        refused("copy: none from below", -13, x -> x.copy(BYTES, -1, HUNDRED, 0, 0));
        int most = Integer.MAX_VALUE;
        refused("copy: sums that overflow", -13, x -> x.copy(BYTES, most, HUNDRED, most, most));
        refused("copy: all there are, and 1 more", -13, x -> x.copy(BYTES, 1, HUNDRED, 1, most));
        refused("copy: from the last place", -13, x -> x.copy(BYTES, most, HUNDRED, 0, 1));
        refused("copy: to the last place", -13, x -> x.copy(BYTES, 0, HUNDRED, most, 1));
        refused("copy: none of an empty ROW", 0, x -> x.copy(EMPTY, 0, EMPTY, 0, 0));
        refused("copy: none from the end to the end", 0, x -> x.copy(BYTES, 3, HUNDRED, 100, 0));
        refused("copy: all onto themselves", 3, x -> x.copy(BYTES, 0, BYTES, 0, 3));
        Due.is("copy: 3 to place 97 of 100", full().copy(BYTES, 0, HUNDRED, 97, 3), 3);
        Due.is("copy: 100", full().copy(HUNDRED, 0, HUNDRED, 0, 100), 100);
        Due.is("copy: 101", full().copy(HUNDRED, 0, HUNDRED, 0, 101), -13);
    }

    private static void costAndToss() {
        refused("cost: no SHELF", -1, x -> x.cost(8));
        refused("cost: nothing", -11, x -> x.cost(NOTHING));
        for (int d : new int[] {BYTES, SHORTS, INTS, EMPTY, HUNDRED}) {
            refused("cost: a ROW", -12, x -> x.cost(d));
            refused("toss: a ROW", -12, x -> x.toss(d));
            refused("comes: a ROW", -12, x -> x.comes(d, 0));
        }
        refused("toss: no SHELF", -1, x -> x.toss(-1));
        refused("toss: nothing", -11, x -> x.toss(NOTHING));
        refused("toss: a NURSE", -15, x -> x.toss(7));
        refused("toss: a BANKER stays", 103, x -> x.toss(KIND));
        refused("cost: a BANKER stays", 6, x -> x.cost(KIND));
    }
}

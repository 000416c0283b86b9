import java.util.Arrays;

/**
 * Drinkers of kinds, wakers who lie awake for them, bags that go down and what is owing.
 * The document ../shared/DOC.md says what each call does; its words in capitals are used here.
 */
public final class BeansOnTheOtherSide {
    private static final int NO_SUCH = -1;
    private static final int NO_ROOM = -2;
    private static final int NOT_AS_IT_MUST = -3;
    private static final int NONE = -4;
    private static final int NOTHING_HELD = -11;
    private static final int OTHER_KIND = -12;
    private static final int NO_PLACE = -13;
    private static final int BELOW_ZERO = -14;
    private static final int NO_FAILURE = -15;

    private static final int DRINKERS = 7;
    private static final int WAKERS = 5;
    private static final int ALL_WAKERS = 31;
    private static final int WAKER_SETS = 32;
    private static final int NOBODY = 9;
    private static final int KINDS = 8;
    private static final int FIGURES = 10;
    private static final int MOST = 999;
    private static final int MOST_TIRED = 99;
    private static final int FAR = 60;
    private static final int NEAR = 30;
    private static final int MOST_IN_SHED = 200;
    private static final int SHELVES = 8;
    private static final int PLACES = 100;
    private static final int ALL_BUT_SIGN = 0x7fffffff;
    private static final int LEAST_INT = 0x80000000;

    private final Camp now;
    private final Camp image;
    /** What is only thought of is tried here, so that no call makes anything new. */
    private final Camp mind;
    private final Shelf[] shelves;
    /** By DRINKER and by the WAKERS who are taken: the most cups from that DRINKER on. */
    private final int[] mostWoken;
    private final int[] drunkBehind;
    private final int[] gains;
    private boolean imageTaken;

    public BeansOnTheOtherSide() {
        now = new Camp();
        image = new Camp();
        mind = new Camp();
        shelves = new Shelf[SHELVES];
        for (int d = 0; d < SHELVES; d++) {
            shelves[d] = new Shelf();
        }
        mostWoken = new int[(DRINKERS + 1) * WAKER_SETS];
        drunkBehind = new int[PLACES];
        gains = new int[8];
    }

    // ---- the treaty as told

    public int treaty(int d) {
        int refusal = refusalUnless(Shelf.ROW, d);
        if (refusal != 0) {
            return refusal;
        }
        Shelf text = shelves[d];
        if (text.sort != Shelf.BYTES) {
            return OTHER_KIND;
        }
        int bad = firstBadByte(text);
        if (bad >= 0) {
            return -1000 - bad;
        }
        mind.becomeLike(now);
        int statements = 0;
        for (int i = 0; i < text.size; i++) {
            if (isLetter(text.at(i))) {
                if (!mind.obeys(text, i)) {
                    return -2000 - i;
                }
                statements++;
            }
        }
        now.becomeLike(mind);
        return statements;
    }

    public int drinker(int k, int what) {
        if (!now.has(k)) {
            return NO_SUCH;
        }
        switch (what) {
            case 0:
                return now.kind[k];
            case 1:
                return now.figure[k];
            case 2:
                return now.waker[k];
            case 3:
                return now.owes[k];
            case 4:
                return now.thirstOf(k, now.day + 1);
            default:
                return NO_SUCH;
        }
    }

    public int waker(int w, int what) {
        if (!isWaker(w)) {
            return NO_SUCH;
        }
        switch (what) {
            case 0:
                return now.tired[w];
            case 1:
                return now.isAwake(w) ? 1 : 0;
            case 2:
                return now.drinkersOf(w);
            default:
                return NO_SUCH;
        }
    }

    public int comes(int d, int w) {
        if (!isShelf(d) || !isWakerOrNobody(w)) {
            return NO_SUCH;
        }
        int refusal = refusalUnless(Shelf.KIND, d);
        if (refusal != 0) {
            return refusal;
        }
        if (!now.joins(shelves[d].kind, shelves[d].figure, w)) {
            return NO_ROOM;
        }
        return now.people - 1;
    }

    public int wakes(int k, int w) {
        if (!now.has(k) || !isWakerOrNobody(w)) {
            return NO_SUCH;
        }
        int old = now.waker[k];
        now.waker[k] = w;
        return old;
    }

    public int tires(int w, int t) {
        if (!isWaker(w) || !isBetween(t, 0, MOST_TIRED)) {
            return NO_SUCH;
        }
        int old = now.tired[w];
        now.tired[w] = t;
        return old;
    }

    public int sleeps(int w) {
        if (!now.turnsOver(w)) {
            return NO_SUCH;
        }
        return now.isAwake(w) ? 1 : 0;
    }

    public int bags(int b) {
        if (!isBetween(b, 0, MOST)) {
            return NO_SUCH;
        }
        int old = now.bagsLeft;
        now.bagsLeft = b;
        return old;
    }

    public int days(int n) {
        if (!isBetween(n, 1, FAR)) {
            return NO_SUCH;
        }
        if (now.day + n > MOST) {
            return NOT_AS_IT_MUST;
        }
        now.goDays(n);
        return now.owedInAll();
    }

    // ---- days on

    public int owesThen(int k, int n) {
        if (!now.has(k) || !isBetween(n, 0, FAR)) {
            return NO_SUCH;
        }
        thinkDaysOn(n);
        return mind.owes[k];
    }

    public int tiredThen(int w, int n) {
        if (!isWaker(w) || !isBetween(n, 0, FAR)) {
            return NO_SUCH;
        }
        thinkDaysOn(n);
        return mind.tired[w];
    }

    public int then(int n, int what) {
        if (!isBetween(n, 0, FAR) || !isBetween(what, 0, 2)) {
            return NO_SUCH;
        }
        thinkDaysOn(n);
        switch (what) {
            case 0:
                return mind.bagsLeft;
            case 1:
                return mind.asleep;
            default:
                return mind.owedInAll();
        }
    }

    public int firstAsleep(int w) {
        if (!isWaker(w)) {
            return NO_SUCH;
        }
        mind.becomeLike(now);
        for (int n = 0; n < FAR; n++) {
            if (!mind.isAwake(w)) {
                return n;
            }
            mind.goDays(1);
        }
        return mind.isAwake(w) ? NONE : FAR;
    }

    public int out() {
        mind.becomeLike(now);
        for (int n = 0; n < FAR; n++) {
            if (mind.bagsLeft == 0) {
                return n;
            }
            mind.goDays(1);
        }
        return mind.bagsLeft == 0 ? FAR : NONE;
    }

    // ---- who should wake for whom

    public int bestWaker(int k, int n, int what) {
        if (!now.has(k) || !isBetween(n, 0, FAR) || !isBetween(what, 0, 1)) {
            return NO_SUCH;
        }
        int best = 0;
        int least = owedBehindWithWaker(k, 0, n);
        for (int i = 1; i <= WAKERS; i++) {
            int w = i < WAKERS ? i : NOBODY;
            int owed = owedBehindWithWaker(k, w, n);
            if (owed < least) {
                least = owed;
                best = w;
            }
        }
        return what == 0 ? best : least;
    }

    public int match(int k) {
        if (k != -1 && !now.has(k)) {
            return NO_SUCH;
        }
        fillMostWoken();
        int taken = now.asleep;
        if (k == -1) {
            return mostWokenFrom(0, taken);
        }
        int chosen = NOBODY;
        for (int i = 0; i <= k; i++) {
            chosen = firstMatchOf(i, taken);
            if (isWaker(chosen)) {
                taken |= 1 << chosen;
            }
        }
        return isWaker(chosen) ? chosen : NONE;
    }

    public int milk(int n) {
        if (!isBetween(n, 0, NEAR)) {
            return NO_SUCH;
        }
        thinkDaysOn(n);
        int least = mind.owedInAll();
        int best = NONE;
        for (int k = 0; k < now.people; k++) {
            int owed = owedBehindWithMilk(k, n);
            if (owed < least) {
                least = owed;
                best = k;
            }
        }
        return best;
    }

    public int fewest(int n) {
        if (!isBetween(n, 0, NEAR)) {
            return NO_SUCH;
        }
        thinkDaysOn(n);
        int asItIs = mind.owedInAll();
        for (int many = 0; many < WAKERS; many++) {
            for (int kept = 0; kept < WAKER_SETS; kept++) {
                if (Integer.bitCount(kept) == many && owedBehindKeeping(kept, n) <= asItIs) {
                    return kept;
                }
            }
        }
        return ALL_WAKERS;
    }

    public int store(int n) {
        if (!isBetween(n, 0, FAR)) {
            return NO_SUCH;
        }
        // One BAG is left only if all drank what they like, so the wish alone tells it.
        int wished = 0;
        for (int i = 1; i <= n; i++) {
            wished += now.thirstOfAll(now.day + i);
        }
        return wished + 1 <= MOST ? wished + 1 : NONE;
    }

    public int heaviest(int what) {
        switch (what) {
            case 0:
                return now.heaviestWaker();
            case 1:
                return now.drinkersOf(now.heaviestWaker());
            case 2:
                return now.deepestDrinker();
            case 3:
                return now.aloneBits();
            default:
                return NO_SUCH;
        }
    }

    public int rest(int n, int what) {
        if (!isBetween(n, 1, NEAR) || !isBetween(what, 0, 1)) {
            return NO_SUCH;
        }
        int best = 0;
        int least = owedBehindWithout(0, n);
        for (int w = 1; w < WAKERS; w++) {
            int owed = owedBehindWithout(w, n);
            if (owed < least) {
                least = owed;
                best = w;
            }
        }
        return what == 0 ? best : least;
    }

    // ---- what kind one is, what was in the shed

    public int whatIs(int d, int k, int what) {
        if (!isShelf(d) || !now.has(k) || !isBetween(what, 0, 1)) {
            return NO_SUCH;
        }
        int refusal = refusalUnless(Shelf.ROW, d);
        if (refusal != 0) {
            return refusal;
        }
        int fitting = 0;
        int choices = what == 0 ? KINDS : FIGURES;
        for (int i = 0; i < choices; i++) {
            mind.becomeLike(now);
            if (what == 0) {
                mind.kind[k] = i;
            } else {
                mind.figure[k] = i;
            }
            if (mindOwesAsTold(k, shelves[d])) {
                fitting |= 1 << i;
            }
        }
        return fitting;
    }

    public int shed(int d, int what) {
        if (!isShelf(d) || !isBetween(what, 0, 2)) {
            return NO_SUCH;
        }
        int refusal = refusalUnless(Shelf.ROW, d);
        if (refusal != 0) {
            return refusal;
        }
        fillDrunkBehind();
        int many = 0;
        int least = NONE;
        int greatest = NONE;
        for (int b = 0; b <= MOST_IN_SHED; b++) {
            if (bagsGoAsTold(b, shelves[d])) {
                many++;
                least = least == NONE ? b : least;
                greatest = b;
            }
        }
        if (what == 0) {
            return many;
        }
        return what == 1 ? least : greatest;
    }

    public int two(int a, int b, int n) {
        if (!now.has(a) || !now.has(b) || a == b || !isBetween(n, 1, NEAR)) {
            return NO_SUCH;
        }
        for (int pair = 0; pair < 4; pair++) {
            boolean drinksA = pair >= 2;
            boolean drinksB = pair % 2 == 1;
            mind.becomeLike(now);
            mind.dry = (drinksA ? 0 : 1 << a) | (drinksB ? 0 : 1 << b);
            mind.goDays(n);
            gains[2 * pair] = gainInMind(a);
            gains[2 * pair + 1] = gainInMind(b);
        }
        for (int pair = 0; pair < 4; pair++) {
            int otherOfA = pair ^ 2;
            int otherOfB = pair ^ 1;
            if (gains[2 * otherOfA] <= gains[2 * pair]
                && gains[2 * otherOfB + 1] <= gains[2 * pair + 1]) {
                return 10 * (pair / 2) + pair % 2;
            }
        }
        return NONE;
    }

    public long falls(int n, int t, int v, int part) {
        if (!isBetween(n, 0, 7) || !isBetween(t, 2, 20) || !isBetween(v, 0, MOST)
            || !isBetween(part, 0, 1)) {
            return refusedLong(NO_SUCH);
        }
        long above = 0;
        for (int fallen = 0; fallen < 1 << n; fallen++) {
            if (owedBehindFalls(n, fallen) >= v) {
                above += power(t - 1, n - Integer.bitCount(fallen));
            }
        }
        return partOfFraction(above, power(t, n), part);
    }

    public long mean(int part) {
        if (!isBetween(part, 0, 1)) {
            return refusedLong(NO_SUCH);
        }
        return partOfFraction(now.tiredInAll(), WAKERS, part);
    }

    // ---- told folios, years by seeds

    public int forged(int d) {
        int refusal = refusalUnless(Shelf.ROW, d);
        if (refusal != 0) {
            return refusal;
        }
        Shelf told = shelves[d];
        for (int k = 0; k < told.size; k++) {
            if (!now.has(k) || now.owes[k] != told.at(k)) {
                return k;
            }
        }
        return NONE;
    }

    public int judge(int d) {
        int refusal = refusalUnless(Shelf.ROW, d);
        if (refusal != 0) {
            return refusal;
        }
        Shelf told = shelves[d];
        mind.becomeLike(now);
        for (int n = 0; n < told.size; n++) {
            if (!told.allows(n, mind.bagsLeft)) {
                return n;
            }
            mind.goDays(1);
        }
        return NONE;
    }

    public int years(int n, int z, int what) {
        if (!isBetween(n, 1, 20) || !isBetween(what, 0, 1)) {
            return NO_SUCH;
        }
        int seed = z;
        int owed = 0;
        int sleepers = 0;
        for (int year = 0; year < n; year++) {
            mind.becomeLike(now);
            for (int k = 0; k < mind.people; k++) {
                seed = nextSeed(seed);
                mind.waker[k] = drawOf(seed, WAKERS);
            }
            mind.goDays(12);
            owed += mind.owedInAll();
            sleepers += Integer.bitCount(mind.asleep);
        }
        return what == 0 ? owed : sleepers;
    }

    // ---- the image, what is told

    public int image() {
        image.becomeLike(now);
        imageTaken = true;
        return now.day;
    }

    public int restore() {
        if (!imageTaken) {
            return NOT_AS_IT_MUST;
        }
        now.becomeLike(image);
        return now.day;
    }

    public int count(int what) {
        switch (what) {
            case 0:
                return now.people;
            case 1:
                return now.day;
            case 2:
                return now.bagsLeft;
            case 3:
                return now.owedInAll();
            case 4:
                return now.asleep;
            case 5:
                return now.tiredInAll();
            default:
                return NO_SUCH;
        }
    }

    // ---- shelves

    public int keep(int d, int what, int k, int figure) {
        if (!isShelf(d)) {
            return NO_SUCH;
        }
        if (what == 0) {
            shelves[d].holds = Shelf.NOTHING;
            return 0;
        }
        if (what != 1 || !isBetween(k, 0, KINDS - 1) || !isBetween(figure, 0, FIGURES - 1)) {
            return NO_SUCH;
        }
        shelves[d].holds = Shelf.KIND;
        shelves[d].kind = k;
        shelves[d].figure = figure;
        return 0;
    }

    public int row(int d, int sort, int n) {
        if (!isShelf(d) || !isBetween(sort, Shelf.BYTES, Shelf.INTS) || n > PLACES) {
            return NO_SUCH;
        }
        if (n < 0) {
            return BELOW_ZERO;
        }
        shelves[d].becomeRow(sort, n);
        return 0;
    }

    public int put(int d, int i, int v) {
        int refusal = refusalUnless(Shelf.ROW, d);
        if (refusal != 0) {
            return refusal;
        }
        if (!shelves[d].hasPlace(i)) {
            return NO_PLACE;
        }
        shelves[d].setAt(i, v);
        return 0;
    }

    public long element(int d, int i) throws IllegalArgumentException, IllegalStateException {
        if (!isShelf(d)) {
            throw new IllegalArgumentException("no such shelf");
        }
        Shelf shelf = shelves[d];
        if (shelf.holds != Shelf.ROW || !shelf.hasPlace(i)) {
            throw new IllegalStateException("no such place of a row");
        }
        return shelf.at(i);
    }

    public int copy(int d, int i, int e, int j, int n) {
        if (!isShelf(d) || !isShelf(e)) {
            return NO_SUCH;
        }
        Shelf from = shelves[d];
        Shelf to = shelves[e];
        if (from.holds == Shelf.NOTHING || to.holds == Shelf.NOTHING) {
            return NOTHING_HELD;
        }
        if (from.holds != Shelf.ROW || to.holds != Shelf.ROW || from.sort != to.sort) {
            return OTHER_KIND;
        }
        if (!from.hasPlaces(i, n) || !to.hasPlaces(j, n)) {
            return NO_PLACE;
        }
        System.arraycopy(from.elements, i, to.elements, j, n);
        return n;
    }

    public int cost(int d) {
        int refusal = refusalUnless(Shelf.KIND, d);
        if (refusal != 0) {
            return refusal;
        }
        return now.kindNumbered(shelves[d].kind).priceOf(shelves[d].figure);
    }

    public int toss(int d) {
        int refusal = refusalUnless(Shelf.KIND, d);
        if (refusal != 0) {
            return refusal;
        }
        Drinker one = now.kindNumbered(shelves[d].kind);
        int figure = shelves[d].figure;
        try {
            one.failBy(figure);
        } catch (IllegalStateException failure) {
            return one.failureOf(figure);
        }
        return NO_FAILURE;
    }

    // ---- what may be asked for

    private static boolean isBetween(int v, int least, int greatest) {
        return v >= least && v <= greatest;
    }

    private static boolean isWaker(int w) {
        return w >= 0 && w < WAKERS;
    }

    private static boolean isWakerOrNobody(int w) {
        return isWaker(w) || w == NOBODY;
    }

    private static boolean isShelf(int d) {
        return d >= 0 && d < SHELVES;
    }

    /** 0, or why SHELF d can't be taken for one that holds what is wanted. */
    private int refusalUnless(int wanted, int d) {
        if (!isShelf(d)) {
            return NO_SUCH;
        }
        if (shelves[d].holds == Shelf.NOTHING) {
            return NOTHING_HELD;
        }
        return shelves[d].holds == wanted ? 0 : OTHER_KIND;
    }

    private static long refusedLong(int refusal) {
        return 1000000000L - refusal;
    }

    // ---- the text of a treaty

    /** How many digits stand behind a letter; 0 if no statement begins with it. */
    private static int digitsBehind(int letter) {
        switch (letter) {
            case 'z':
                return 1;
            case 'w':
            case 'd':
                return 2;
            case 'k':
            case 't':
            case 'b':
            case 'o':
                return 3;
            default:
                return 0;
        }
    }

    private static boolean isLetter(int b) {
        return digitsBehind(b) > 0;
    }

    /** The place of the first byte with which no TREATY can go on; -1 if there is none. */
    private static int firstBadByte(Shelf text) {
        boolean letterIsDue = true;
        int digitsDue = 0;
        for (int i = 0; i < text.size; i++) {
            int b = text.at(i);
            if (letterIsDue) {
                if (!isLetter(b)) {
                    return i;
                }
                digitsDue = digitsBehind(b);
                letterIsDue = false;
            } else if (digitsDue > 0) {
                if (!isBetween(b, '0', '9')) {
                    return i;
                }
                digitsDue--;
            } else {
                if (b != ';') {
                    return i;
                }
                letterIsDue = true;
            }
        }
        return letterIsDue && text.size > 0 ? -1 : text.size;
    }

    // ---- what is only thought of

    private void thinkDaysOn(int n) {
        mind.becomeLike(now);
        mind.goDays(n);
    }

    private int owedBehindWithWaker(int k, int w, int n) {
        mind.becomeLike(now);
        mind.waker[k] = w;
        mind.goDays(n);
        return mind.owedInAll();
    }

    private int owedBehindWithMilk(int k, int n) {
        mind.becomeLike(now);
        mind.halved = k;
        mind.goDays(n);
        return mind.owedInAll();
    }

    private int owedBehindWithout(int w, int n) {
        mind.becomeLike(now);
        mind.asleep |= 1 << w;
        mind.goDays(n);
        return mind.owedInAll();
    }

    private int owedBehindKeeping(int kept, int n) {
        mind.becomeLike(now);
        mind.asleepForEver = ALL_WAKERS & ~kept;
        mind.asleep |= mind.asleepForEver;
        mind.goDays(n);
        return mind.owedInAll();
    }

    /** A bit of fallen for each DAY ahead of which all WAKERS are ASLEEP. */
    private int owedBehindFalls(int n, int fallen) {
        mind.becomeLike(now);
        for (int i = 0; i < n; i++) {
            if ((fallen >> i & 1) != 0) {
                mind.asleep = ALL_WAKERS;
            }
            mind.goDays(1);
        }
        return mind.owedInAll();
    }

    private boolean mindOwesAsTold(int k, Shelf told) {
        for (int n = 0; n < told.size; n++) {
            if (!told.allows(n, mind.owes[k])) {
                return false;
            }
            mind.goDays(1);
        }
        return true;
    }

    private int gainInMind(int k) {
        return mind.drunk[k] - (mind.owes[k] - now.owes[k]) / 2;
    }

    /** What all would have drunk behind 1, 2, .. DAYS, if there were BAGS enough. */
    private void fillDrunkBehind() {
        int drunk = 0;
        for (int i = 0; i < PLACES; i++) {
            drunk += now.thirstOfAll(now.day + i + 1);
            drunkBehind[i] = drunk;
        }
    }

    private boolean bagsGoAsTold(int b, Shelf told) {
        for (int i = 0; i < told.size && i < PLACES; i++) {
            if (!told.allows(i, Math.max(0, b - drunkBehind[i]))) {
                return false;
            }
        }
        return true;
    }

    // ---- the match

    private static int matchCell(int k, int taken) {
        return isBetween(k, 0, DRINKERS) && isBetween(taken, 0, ALL_WAKERS)
            ? k * WAKER_SETS + taken : 0;
    }

    private int mostWokenFrom(int k, int taken) {
        return mostWoken[matchCell(k, taken)];
    }

    /** From the last DRINKER to the first, so that what stands behind one is known. */
    private void fillMostWoken() {
        Arrays.fill(mostWoken, 0);
        for (int k = now.people - 1; k >= 0; k--) {
            int cups = now.thirstOf(k, now.day + 1);
            for (int taken = 0; taken < WAKER_SETS; taken++) {
                int most = mostWokenFrom(k + 1, taken);
                for (int w = 0; w < WAKERS; w++) {
                    if ((taken >> w & 1) == 0) {
                        most = Math.max(most, cups + mostWokenFrom(k + 1, taken | 1 << w));
                    }
                }
                mostWoken[matchCell(k, taken)] = most;
            }
        }
    }

    private int firstMatchOf(int k, int taken) {
        int cups = now.thirstOf(k, now.day + 1);
        int most = mostWokenFrom(k, taken);
        for (int w = 0; w < WAKERS; w++) {
            if ((taken >> w & 1) == 0 && cups + mostWokenFrom(k + 1, taken | 1 << w) == most) {
                return w;
            }
        }
        return NOBODY;
    }

    // ---- numbers

    private static long power(long base, int exponent) {
        long product = 1;
        for (int i = 0; i < exponent; i++) {
            product *= base;
        }
        return product;
    }

    private static long partOfFraction(long above, long below, int part) {
        long a = above;
        long b = below;
        // The rests of Euclid's division shrink so fast that 100 steps outdo any long.
        for (int i = 0; i < 100 && b != 0; i++) {
            long left = a % b;
            a = b;
            b = left;
        }
        if (a == 0) {
            return 0;
        }
        return part == 0 ? above / a : below / a;
    }

    private static int nextSeed(int seed) {
        return seed * 1103515245 + 12345;
    }

    private static int drawOf(int seed, int n) {
        return n > 0 ? (seed & ALL_BUT_SIGN) / 65536 % n : 0;
    }

    // ---- the kinds

    private static class Drinker {
        int cupsOn(int day, int figure) {
            return 2;
        }

        int tiringFor(int cups, int figure) {
            return 3 * cups;
        }

        int debtFor(int cups, int figure) {
            return cups;
        }

        int priceOf(int figure) {
            return 3;
        }

        void failBy(int figure) {
            if (figure != 0) {
                throw new IllegalStateException("a failure");
            }
        }

        int failureOf(int figure) {
            return figure;
        }
    }

    private static class Clerk extends Drinker {
        int cupsOn(int day, int figure) {
            return super.cupsOn(day, figure) + (day % 2 != 0 ? 1 : 0);
        }

        int tiringFor(int cups, int figure) {
            return 2 * cups;
        }

        int priceOf(int figure) {
            return super.priceOf(figure) + 1;
        }
    }

    private static class Banker extends Drinker {
        int cupsOn(int day, int figure) {
            return super.cupsOn(day, figure) + figure / 2;
        }

        int tiringFor(int cups, int figure) {
            return super.tiringFor(cups, figure) + cups;
        }

        int debtFor(int cups, int figure) {
            return 2 * super.debtFor(cups, figure);
        }

        int priceOf(int figure) {
            return super.priceOf(figure) + figure;
        }

        int failureOf(int figure) {
            return super.failureOf(figure) + 100;
        }
    }

    private static class Nurse extends Drinker {
        int cupsOn(int day, int figure) {
            return 1;
        }

        int tiringFor(int cups, int figure) {
            return cups;
        }

        int priceOf(int figure) {
            return 2;
        }

        void failBy(int figure) {
            // NURSES, and SAINTS under them, have no FAILURE.
        }
    }

    private static class Captain extends Banker {
        int cupsOn(int day, int figure) {
            return 2 * super.cupsOn(day, figure);
        }

        int priceOf(int figure) {
            return 2 * super.priceOf(figure);
        }
    }

    private static final class Lover extends Clerk {
        int cupsOn(int day, int figure) {
            return day % 3 == 0 ? 0 : super.cupsOn(day, figure);
        }

        int tiringFor(int cups, int figure) {
            return Math.max(0, super.tiringFor(cups, figure) - figure);
        }
    }

    private static final class Smuggler extends Captain {
        int cupsOn(int day, int figure) {
            return super.cupsOn(day, figure) - 1;
        }

        int tiringFor(int cups, int figure) {
            return 0;
        }

        int debtFor(int cups, int figure) {
            return cups > 0 ? super.debtFor(cups, figure) + figure : 0;
        }

        int priceOf(int figure) {
            return super.priceOf(figure) - 5;
        }

        int failureOf(int figure) {
            return 200 + priceOf(figure);
        }
    }

    private static final class Saint extends Nurse {
        int cupsOn(int day, int figure) {
            return 0;
        }

        int tiringFor(int cups, int figure) {
            return 5;
        }

        int debtFor(int cups, int figure) {
            return 0;
        }

        int priceOf(int figure) {
            return super.priceOf(figure) / 2;
        }
    }

    /** All that there is but SHELVES: as it is now, in THE IMAGE, or in mind. */
    private static final class Camp {
        /** Each camp has its own: a constructor hands out nothing (rule 12 of LANGUAGE.md). */
        private final Drinker[] kinds = {new Drinker(), new Clerk(), new Banker(), new Nurse(),
            new Captain(), new Lover(), new Smuggler(), new Saint()};
        private final int[] kind = new int[DRINKERS];
        private final int[] figure = new int[DRINKERS];
        private final int[] waker = new int[DRINKERS];
        private final int[] owes = new int[DRINKERS];
        private final int[] tired = new int[WAKERS];
        private int people = 0;
        private int asleep = 0;
        private int bagsLeft = 60;
        private int day = 0;

        /** Cups since this camp became like another; only told in mind. */
        private final int[] drunk = new int[DRINKERS];
        /** In mind alone: who drinks half (-1 none), who drink nothing, who never wake. */
        private int halved = -1;
        private int dry = 0;
        private int asleepForEver = 0;

        void becomeLike(Camp other) {
            System.arraycopy(other.kind, 0, kind, 0, DRINKERS);
            System.arraycopy(other.figure, 0, figure, 0, DRINKERS);
            System.arraycopy(other.waker, 0, waker, 0, DRINKERS);
            System.arraycopy(other.owes, 0, owes, 0, DRINKERS);
            System.arraycopy(other.tired, 0, tired, 0, WAKERS);
            people = other.people;
            asleep = other.asleep;
            bagsLeft = other.bagsLeft;
            day = other.day;
            Arrays.fill(drunk, 0);
            halved = -1;
            dry = 0;
            asleepForEver = 0;
        }

        boolean has(int k) {
            return k >= 0 && k < people && k < DRINKERS;
        }

        Drinker kindNumbered(int number) {
            return kinds[isBetween(number, 0, KINDS - 1) ? number : 0];
        }

        boolean isAwake(int w) {
            return isWaker(w) && (asleep >> w & 1) == 0;
        }

        boolean joins(int newKind, int newFigure, int w) {
            if (people < 0 || people >= DRINKERS) {
                return false;
            }
            kind[people] = newKind;
            figure[people] = newFigure;
            waker[people] = w;
            owes[people] = 0;
            people++;
            return true;
        }

        int thirstOf(int k, int onDay) {
            return has(k) ? kindNumbered(kind[k]).cupsOn(onDay, figure[k]) : 0;
        }

        int thirstOfAll(int onDay) {
            int cups = 0;
            for (int k = 0; k < people; k++) {
                cups += thirstOf(k, onDay);
            }
            return cups;
        }

        void goDays(int n) {
            for (int i = 0; i < n; i++) {
                day++;
                restSleepers();
                for (int k = 0; k < people; k++) {
                    pour(k);
                }
                endDay();
            }
        }

        private void restSleepers() {
            for (int w = 0; w < WAKERS; w++) {
                if (!isAwake(w)) {
                    tired[w] = Math.max(0, tired[w] - 15);
                    if (tired[w] < 20 && (asleepForEver >> w & 1) == 0) {
                        asleep &= ~(1 << w);
                    }
                }
            }
        }

        private void pour(int k) {
            if (!has(k)) {
                return;
            }
            Drinker one = kindNumbered(kind[k]);
            int wish = (dry >> k & 1) != 0 ? 0 : one.cupsOn(day, figure[k]);
            int cups = Math.min(k == halved ? wish / 2 : wish, bagsLeft);
            bagsLeft -= cups;
            drunk[k] += cups;
            int w = waker[k];
            if (isAwake(w)) {
                tired[w] = Math.min(MOST_TIRED, tired[w] + one.tiringFor(cups, figure[k]));
            } else {
                owes[k] = Math.min(MOST, owes[k] + one.debtFor(cups, figure[k]));
            }
        }

        private void endDay() {
            for (int w = 0; w < WAKERS; w++) {
                if (isAwake(w)) {
                    if (tired[w] >= 60) {
                        asleep |= 1 << w;
                    } else {
                        tired[w] = Math.max(0, tired[w] - 2);
                    }
                }
            }
        }

        /** Does the statement whose letter stands at a place, if it can be done. */
        boolean obeys(Shelf text, int place) {
            int first = text.numberAt(place + 1, 1);
            int second = text.numberAt(place + 2, 1);
            int third = text.numberAt(place + 3, 1);
            int firstTwo = text.numberAt(place + 1, 2);
            int lastTwo = text.numberAt(place + 2, 2);
            switch (text.at(place)) {
                case 'k':
                    return first < KINDS && isWakerOrNobody(third) && joins(first, second, third);
                case 'w':
                    return has(first) && isWakerOrNobody(second) && setIn(waker, first, second);
                case 't':
                    return setIn(tired, first, lastTwo);
                case 'z':
                    return turnsOver(first);
                case 'b':
                    bagsLeft = text.numberAt(place + 1, 3);
                    return true;
                case 'o':
                    return has(first) && setIn(owes, first, lastTwo);
                case 'd':
                    if (!isBetween(firstTwo, 1, FAR) || day + firstTwo > MOST) {
                        return false;
                    }
                    goDays(firstTwo);
                    return true;
                default:
                    return false;
            }
        }

        private boolean turnsOver(int w) {
            if (!isWaker(w)) {
                return false;
            }
            asleep ^= 1 << w;
            return true;
        }

        private static boolean setIn(int[] numbers, int i, int v) {
            if (i < 0 || i >= numbers.length) {
                return false;
            }
            numbers[i] = v;
            return true;
        }

        int owedInAll() {
            int owed = 0;
            for (int k = 0; k < people && k < DRINKERS; k++) {
                owed += owes[k];
            }
            return owed;
        }

        int tiredInAll() {
            int sum = 0;
            for (int w = 0; w < WAKERS; w++) {
                sum += tired[w];
            }
            return sum;
        }

        int drinkersOf(int w) {
            int many = 0;
            for (int k = 0; k < people && k < DRINKERS; k++) {
                if (waker[k] == w) {
                    many++;
                }
            }
            return many;
        }

        int heaviestWaker() {
            int heaviest = 0;
            for (int w = 1; w < WAKERS; w++) {
                if (drinkersOf(w) > drinkersOf(heaviest)) {
                    heaviest = w;
                }
            }
            return heaviest;
        }

        int deepestDrinker() {
            int deepest = NONE;
            int most = -1;
            for (int k = 0; k < people && k < DRINKERS; k++) {
                if (owes[k] > most) {
                    most = owes[k];
                    deepest = k;
                }
            }
            return deepest;
        }

        int aloneBits() {
            int alone = 0;
            for (int k = 0; k < people && k < DRINKERS; k++) {
                if (!isAwake(waker[k])) {
                    alone |= 1 << k;
                }
            }
            return alone;
        }
    }

    private static final class Shelf {
        private static final int NOTHING = 0;
        private static final int KIND = 1;
        private static final int ROW = 2;
        private static final int BYTES = 0;
        private static final int SHORTS = 1;
        private static final int INTS = 2;

        private int holds = NOTHING;
        private int kind = 0;
        private int figure = 0;
        private int sort = BYTES;
        private int size = 0;
        private final int[] elements = new int[PLACES];

        void becomeRow(int newSort, int newSize) {
            holds = ROW;
            sort = newSort;
            size = Math.max(0, Math.min(newSize, PLACES));
            Arrays.fill(elements, 0);
        }

        boolean hasPlace(int i) {
            return i >= 0 && i < size && i < PLACES;
        }

        boolean hasPlaces(int i, int n) {
            return n >= 0 && i >= 0 && n <= size && i <= size - n;
        }

        int at(int i) {
            return hasPlace(i) ? elements[i] : 0;
        }

        void setAt(int i, int v) {
            if (!hasPlace(i)) {
                return;
            }
            if (sort == BYTES) {
                elements[i] = (byte) v;
            } else if (sort == SHORTS) {
                elements[i] = (short) v;
            } else {
                elements[i] = v;
            }
        }

        /** The number of so many digits that begins at a place. */
        int numberAt(int place, int digits) {
            int number = 0;
            for (int i = 0; i < digits; i++) {
                number = 10 * number + at(place + i) - '0';
            }
            return number;
        }

        private int leastOfSort() {
            if (sort == BYTES) {
                return -128;
            }
            return sort == SHORTS ? -32768 : LEAST_INT;
        }

        /** True as well of an element that is skipped. */
        boolean allows(int i, int v) {
            return at(i) == v || at(i) == leastOfSort();
        }
    }
}

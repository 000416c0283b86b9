import java.math.BigInteger;
import java.util.ArrayList;
import java.util.List;

/**
 * The document once more, written with no thought for room or speed: the program is compared
 * with it. It tries all that there is to try where the program takes a shorter way.
 */
public final class PlainModel {
    private static final class Person {
        int kind;
        int figure;
        int waker;
        int owes;
        int drunk;
        boolean half;
        boolean dry;

        Person twin() {
            Person p = new Person();
            p.kind = kind;
            p.figure = figure;
            p.waker = waker;
            p.owes = owes;
            return p;
        }

        int drinks(int day) {
            int clerk = day % 2 == 1 ? 3 : 2;
            int banker = 2 + figure / 2;
            int[] all = {2, clerk, banker, 1, 2 * banker, day % 3 == 0 ? 0 : clerk, 2 * banker - 1, 0};
            if (dry) {
                return 0;
            }
            return half ? all[kind] / 2 : all[kind];
        }

        int tires(int c) {
            int[] all = {3 * c, 2 * c, 4 * c, c, 4 * c, Math.max(0, 2 * c - figure), 0, 5};
            return all[kind];
        }

        int runsUp(int c) {
            int[] all = {c, c, 2 * c, c, 2 * c, c, c > 0 ? 2 * c + figure : 0, 0};
            return all[kind];
        }
    }

    private static final class World {
        final List<Person> people = new ArrayList<>();
        final int[] tired = new int[5];
        final boolean[] asleep = new boolean[5];
        final boolean[] forEver = new boolean[5];
        int bags = 60;
        int day = 0;

        World twin() {
            World w = new World();
            for (Person p : people) {
                w.people.add(p.twin());
            }
            System.arraycopy(tired, 0, w.tired, 0, 5);
            System.arraycopy(asleep, 0, w.asleep, 0, 5);
            w.bags = bags;
            w.day = day;
            return w;
        }

        World on(int days) {
            World w = twin();
            w.go(days);
            return w;
        }

        void go(int days) {
            for (int i = 0; i < days; i++) {
                oneDay();
            }
        }

        void oneDay() {
            day++;
            for (int w = 0; w < 5; w++) {
                if (asleep[w]) {
                    tired[w] = Math.max(0, tired[w] - 15);
                    asleep[w] = forEver[w] || tired[w] >= 20;
                }
            }
            for (Person p : people) {
                int c = Math.min(p.drinks(day), bags);
                bags -= c;
                p.drunk += c;
                if (p.waker != 9 && !asleep[p.waker]) {
                    tired[p.waker] = Math.min(99, tired[p.waker] + p.tires(c));
                } else {
                    p.owes = Math.min(999, p.owes + p.runsUp(c));
                }
            }
            for (int w = 0; w < 5; w++) {
                if (!asleep[w]) {
                    if (tired[w] >= 60) {
                        asleep[w] = true;
                    } else {
                        tired[w] = Math.max(0, tired[w] - 2);
                    }
                }
            }
        }

        int owed() {
            return people.stream().mapToInt(p -> p.owes).sum();
        }

        int sleepers() {
            int bits = 0;
            for (int w = 0; w < 5; w++) {
                bits |= asleep[w] ? 1 << w : 0;
            }
            return bits;
        }

        int tiredAll() {
            int sum = 0;
            for (int t : tired) {
                sum += t;
            }
            return sum;
        }

        boolean has(int k) {
            return k >= 0 && k < people.size();
        }
    }

    /** Null: nothing; else the KIND of a DRINKER (numbers null) or a ROW. */
    private static final class Thing {
        int kind;
        int figure;
        int sort;
        int[] numbers;

        boolean skips(int i) {
            int[] leasts = {-128, -32768, Integer.MIN_VALUE};
            return numbers[i] == leasts[sort];
        }
    }

    private World now = new World();
    private World image = null;
    private final Thing[] shelves = new Thing[8];

    private static boolean in(int v, int a, int b) {
        return a <= v && v <= b;
    }

    private static boolean wakerOr9(int w) {
        return in(w, 0, 4) || w == 9;
    }

    private int wantRow(int d) {
        return !in(d, 0, 7) ? -1 : shelves[d] == null ? -11 : shelves[d].numbers == null ? -12 : 0;
    }

    private int wantKind(int d) {
        return !in(d, 0, 7) ? -1 : shelves[d] == null ? -11 : shelves[d].numbers != null ? -12 : 0;
    }

    public int treaty(int d) {
        int r = wantRow(d);
        if (r != 0) {
            return r;
        }
        if (shelves[d].sort != 0) {
            return -12;
        }
        StringBuilder text = new StringBuilder();
        for (int b : shelves[d].numbers) {
            text.append((char) (b & 255));
        }
        // The longest beginning that some treaty has ends where the fault is.
        String statement = "(k\\d\\d\\d;|w\\d\\d;|t\\d\\d\\d;|z\\d;|b\\d\\d\\d;|o\\d\\d\\d;|d\\d\\d;)";
        if (!text.toString().matches(statement + "+")) {
            java.util.regex.Pattern p = java.util.regex.Pattern.compile(statement + "+");
            for (int n = 0; n <= text.length(); n++) {
                java.util.regex.Matcher m = p.matcher(text.substring(0, n));
                if (!m.matches() && !m.hitEnd()) {
                    return -1000 - (n - 1);
                }
            }
            return -1000 - text.length();
        }
        World trial = now.twin();
        int place = 0;
        int done = 0;
        for (String s : text.toString().split(";")) {
            if (!obey(trial, s)) {
                return -2000 - place;
            }
            place += s.length() + 1;
            done++;
        }
        now = trial;
        return done;
    }

    private boolean obey(World w, String s) {
        int a = s.charAt(1) - '0';
        int all = Integer.parseInt(s.substring(1));
        switch (s.charAt(0)) {
            case 'k': {
                Person p = new Person();
                p.kind = a;
                p.figure = s.charAt(2) - '0';
                p.waker = s.charAt(3) - '0';
                w.people.add(p);
                return p.kind <= 7 && wakerOr9(p.waker) && w.people.size() <= 7;
            }
            case 'w':
                if (!w.has(a) || !wakerOr9(all % 10)) {
                    return false;
                }
                w.people.get(a).waker = all % 10;
                return true;
            case 't':
                if (a > 4) {
                    return false;
                }
                w.tired[a] = all % 100;
                return true;
            case 'z':
                if (a > 4) {
                    return false;
                }
                w.asleep[a] = !w.asleep[a];
                return true;
            case 'b':
                w.bags = all;
                return true;
            case 'o':
                if (!w.has(a)) {
                    return false;
                }
                w.people.get(a).owes = all % 100;
                return true;
            default:
                if (!in(all, 1, 60) || w.day + all > 999) {
                    return false;
                }
                w.go(all);
                return true;
        }
    }

    public int drinker(int k, int what) {
        if (!now.has(k) || !in(what, 0, 4)) {
            return -1;
        }
        Person p = now.people.get(k);
        return new int[] {p.kind, p.figure, p.waker, p.owes, p.drinks(now.day + 1)}[what];
    }

    private int load(int w) {
        return (int) now.people.stream().filter(p -> p.waker == w).count();
    }

    public int waker(int w, int what) {
        if (!in(w, 0, 4) || !in(what, 0, 2)) {
            return -1;
        }
        return new int[] {now.tired[w], now.asleep[w] ? 0 : 1, load(w)}[what];
    }

    public int comes(int d, int w) {
        if (!in(d, 0, 7) || !wakerOr9(w)) {
            return -1;
        }
        if (wantKind(d) != 0) {
            return wantKind(d);
        }
        if (now.people.size() == 7) {
            return -2;
        }
        Person p = new Person();
        p.kind = shelves[d].kind;
        p.figure = shelves[d].figure;
        p.waker = w;
        now.people.add(p);
        return now.people.size() - 1;
    }

    public int wakes(int k, int w) {
        if (!now.has(k) || !wakerOr9(w)) {
            return -1;
        }
        int old = now.people.get(k).waker;
        now.people.get(k).waker = w;
        return old;
    }

    public int tires(int w, int t) {
        if (!in(w, 0, 4) || !in(t, 0, 99)) {
            return -1;
        }
        int old = now.tired[w];
        now.tired[w] = t;
        return old;
    }

    public int sleeps(int w) {
        if (!in(w, 0, 4)) {
            return -1;
        }
        now.asleep[w] = !now.asleep[w];
        return now.asleep[w] ? 0 : 1;
    }

    public int bags(int b) {
        if (!in(b, 0, 999)) {
            return -1;
        }
        int old = now.bags;
        now.bags = b;
        return old;
    }

    public int days(int n) {
        if (!in(n, 1, 60)) {
            return -1;
        }
        if (now.day + n > 999) {
            return -3;
        }
        now.go(n);
        return now.owed();
    }

    public int owesThen(int k, int n) {
        return now.has(k) && in(n, 0, 60) ? now.on(n).people.get(k).owes : -1;
    }

    public int tiredThen(int w, int n) {
        return in(w, 0, 4) && in(n, 0, 60) ? now.on(n).tired[w] : -1;
    }

    public int then(int n, int what) {
        if (!in(n, 0, 60) || !in(what, 0, 2)) {
            return -1;
        }
        World w = now.on(n);
        return new int[] {w.bags, w.sleepers(), w.owed()}[what];
    }

    public int firstAsleep(int w) {
        if (!in(w, 0, 4)) {
            return -1;
        }
        for (int n = 0; n <= 60; n++) {
            if (now.on(n).asleep[w]) {
                return n;
            }
        }
        return -4;
    }

    public int out() {
        for (int n = 0; n <= 60; n++) {
            if (now.on(n).bags == 0) {
                return n;
            }
        }
        return -4;
    }

    public int bestWaker(int k, int n, int what) {
        if (!now.has(k) || !in(n, 0, 60) || !in(what, 0, 1)) {
            return -1;
        }
        int best = -1;
        int least = Integer.MAX_VALUE;
        for (int w : new int[] {0, 1, 2, 3, 4, 9}) {
            World then = now.twin();
            then.people.get(k).waker = w;
            then.go(n);
            if (then.owed() < least) {
                least = then.owed();
                best = w;
            }
        }
        return what == 0 ? best : least;
    }

    private int[] bestMatch;
    private int bestMatchCups;

    public int match(int k) {
        if (k != -1 && !now.has(k)) {
            return -1;
        }
        bestMatch = null;
        bestMatchCups = -1;
        tryMatches(new int[now.people.size()], 0);
        if (k == -1) {
            return bestMatchCups;
        }
        return bestMatch[k] == 9 ? -4 : bestMatch[k];
    }

    private void tryMatches(int[] chosen, int k) {
        if (k == chosen.length) {
            int cups = 0;
            for (int i = 0; i < k; i++) {
                cups += chosen[i] == 9 ? 0 : now.people.get(i).drinks(now.day + 1);
            }
            if (cups > bestMatchCups) {
                bestMatchCups = cups;
                bestMatch = chosen.clone();
            }
            return;
        }
        for (int w : new int[] {0, 1, 2, 3, 4, 9}) {
            boolean free = w == 9 || !now.asleep[w];
            for (int i = 0; i < k; i++) {
                free &= w == 9 || chosen[i] != w;
            }
            if (free) {
                chosen[k] = w;
                tryMatches(chosen, k + 1);
            }
        }
    }

    public int milk(int n) {
        if (!in(n, 0, 30)) {
            return -1;
        }
        int least = now.on(n).owed();
        int best = -4;
        for (int k = 0; k < now.people.size(); k++) {
            World then = now.twin();
            then.people.get(k).half = true;
            then.go(n);
            if (then.owed() < least) {
                least = then.owed();
                best = k;
            }
        }
        return best;
    }

    public int fewest(int n) {
        if (!in(n, 0, 30)) {
            return -1;
        }
        int best = 31;
        for (int kept = 31; kept >= 0; kept--) {
            World then = now.twin();
            for (int w = 0; w < 5; w++) {
                then.forEver[w] = (kept >> w & 1) == 0;
                then.asleep[w] |= then.forEver[w];
            }
            then.go(n);
            if (then.owed() <= now.on(n).owed() && Integer.bitCount(kept) <= Integer.bitCount(best)) {
                best = kept;
            }
        }
        return best;
    }

    public int store(int n) {
        if (!in(n, 0, 60)) {
            return -1;
        }
        for (int b = 0; b <= 999; b++) {
            World then = now.twin();
            then.bags = b;
            then.go(n);
            if (then.bags >= 1) {
                return b;
            }
        }
        return -4;
    }

    public int heaviest(int what) {
        int heavy = 0;
        for (int w = 4; w >= 0; w--) {
            heavy = load(w) >= load(heavy) ? w : heavy;
        }
        int deep = -4;
        int alone = 0;
        for (int k = now.people.size() - 1; k >= 0; k--) {
            Person p = now.people.get(k);
            deep = deep == -4 || p.owes >= now.people.get(deep).owes ? k : deep;
            alone |= p.waker == 9 || now.asleep[p.waker] ? 1 << k : 0;
        }
        return in(what, 0, 3) ? new int[] {heavy, load(heavy), deep, alone}[what] : -1;
    }

    public int rest(int n, int what) {
        if (!in(n, 1, 30) || !in(what, 0, 1)) {
            return -1;
        }
        int best = -1;
        int least = Integer.MAX_VALUE;
        for (int w = 0; w < 5; w++) {
            World then = now.twin();
            then.asleep[w] = true;
            then.go(n);
            if (then.owed() < least) {
                least = then.owed();
                best = w;
            }
        }
        return what == 0 ? best : least;
    }

    public int whatIs(int d, int k, int what) {
        if (!in(d, 0, 7) || !now.has(k) || !in(what, 0, 1)) {
            return -1;
        }
        if (wantRow(d) != 0) {
            return wantRow(d);
        }
        int bits = 0;
        for (int i = 0; i < (what == 0 ? 8 : 10); i++) {
            World w = now.twin();
            Person p = w.people.get(k);
            p.kind = what == 0 ? i : p.kind;
            p.figure = what == 0 ? p.figure : i;
            boolean so = true;
            for (int n = 0; n < shelves[d].numbers.length; n++) {
                so &= shelves[d].skips(n) || p.owes == shelves[d].numbers[n];
                w.oneDay();
            }
            bits |= so ? 1 << i : 0;
        }
        return bits;
    }

    public int shed(int d, int what) {
        if (!in(d, 0, 7) || !in(what, 0, 2)) {
            return -1;
        }
        if (wantRow(d) != 0) {
            return wantRow(d);
        }
        List<Integer> fit = new ArrayList<>();
        for (int b = 0; b <= 200; b++) {
            World w = now.twin();
            w.bags = b;
            boolean so = true;
            for (int n = 0; n < shelves[d].numbers.length && so; n++) {
                w.oneDay();
                so = shelves[d].skips(n) || w.bags == shelves[d].numbers[n];
            }
            if (so) {
                fit.add(b);
            }
        }
        if (what == 0) {
            return fit.size();
        }
        return fit.isEmpty() ? -4 : fit.get(what == 1 ? 0 : fit.size() - 1);
    }

    private int[] gains(int a, int b, int n, int drinksA, int drinksB) {
        World w = now.twin();
        w.people.get(a).dry = drinksA == 0;
        w.people.get(b).dry = drinksB == 0;
        w.go(n);
        int[] gains = new int[2];
        for (int i = 0; i < 2; i++) {
            Person p = w.people.get(i == 0 ? a : b);
            gains[i] = p.drunk - (p.owes - now.people.get(i == 0 ? a : b).owes) / 2;
        }
        return gains;
    }

    public int two(int a, int b, int n) {
        if (!now.has(a) || !now.has(b) || a == b || !in(n, 1, 30)) {
            return -1;
        }
        for (int p = 0; p <= 1; p++) {
            for (int q = 0; q <= 1; q++) {
                if (gains(a, b, n, p, q)[0] >= gains(a, b, n, 1 - p, q)[0]
                    && gains(a, b, n, p, q)[1] >= gains(a, b, n, p, 1 - q)[1]) {
                    return 10 * p + q;
                }
            }
        }
        return -4;
    }

    /** Odds as a count of equally likely runs: t ways for each DAY, of which one is a fall. */
    private BigInteger ways(World w, int n, int t, int v) {
        if (n == 0) {
            return w.owed() >= v ? BigInteger.ONE : BigInteger.ZERO;
        }
        World stays = w.twin();
        stays.oneDay();
        World falls = w.twin();
        java.util.Arrays.fill(falls.asleep, true);
        falls.oneDay();
        return ways(stays, n - 1, t, v).multiply(BigInteger.valueOf(t - 1)).add(ways(falls, n - 1, t, v));
    }

    private static long part(BigInteger above, BigInteger below, int part) {
        return (part == 0 ? above : below).divide(above.gcd(below)).longValueExact();
    }

    public long falls(int n, int t, int v, int part) {
        if (!in(n, 0, 7) || !in(t, 2, 20) || !in(v, 0, 999) || !in(part, 0, 1)) {
            return 1000000001L;
        }
        return part(ways(now, n, t, v), BigInteger.valueOf(t).pow(n), part);
    }

    public long mean(int part) {
        if (!in(part, 0, 1)) {
            return 1000000001L;
        }
        return part(BigInteger.valueOf(now.tiredAll()), BigInteger.valueOf(5), part);
    }

    public int forged(int d) {
        if (wantRow(d) != 0) {
            return wantRow(d);
        }
        for (int k = 0; k < shelves[d].numbers.length; k++) {
            if (k >= now.people.size() || now.people.get(k).owes != shelves[d].numbers[k]) {
                return k;
            }
        }
        return -4;
    }

    public int judge(int d) {
        if (wantRow(d) != 0) {
            return wantRow(d);
        }
        for (int n = 0; n < shelves[d].numbers.length; n++) {
            if (!shelves[d].skips(n) && now.on(n).bags != shelves[d].numbers[n]) {
                return n;
            }
        }
        return -4;
    }

    private long drawn;

    private int draw(int n) {
        drawn = (drawn * 1103515245L + 12345L) & 0xffffffffL;
        return (int) ((drawn & 0x7fffffffL) / 65536 % n);
    }

    public int years(int n, int z, int what) {
        if (!in(n, 1, 20) || !in(what, 0, 1)) {
            return -1;
        }
        drawn = z & 0xffffffffL;
        int[] sums = new int[2];
        for (int year = 0; year < n; year++) {
            World w = now.twin();
            for (Person p : w.people) {
                p.waker = draw(5);
            }
            w.go(12);
            sums[0] += w.owed();
            sums[1] += Integer.bitCount(w.sleepers());
        }
        return sums[what];
    }

    public int image() {
        image = now.twin();
        return now.day;
    }

    public int restore() {
        if (image == null) {
            return -3;
        }
        now = image.twin();
        return now.day;
    }

    public int count(int what) {
        int[] all = {now.people.size(), now.day, now.bags, now.owed(), now.sleepers(), now.tiredAll()};
        return in(what, 0, 5) ? all[what] : -1;
    }

    public int keep(int d, int what, int k, int figure) {
        if (!in(d, 0, 7) || !in(what, 0, 1) || what == 1 && (!in(k, 0, 7) || !in(figure, 0, 9))) {
            return -1;
        }
        shelves[d] = what == 0 ? null : new Thing();
        if (what == 1) {
            shelves[d].kind = k;
            shelves[d].figure = figure;
        }
        return 0;
    }

    public int row(int d, int sort, int n) {
        if (!in(d, 0, 7) || !in(sort, 0, 2) || n > 100) {
            return -1;
        }
        if (n < 0) {
            return -14;
        }
        shelves[d] = new Thing();
        shelves[d].sort = sort;
        shelves[d].numbers = new int[n];
        return 0;
    }

    public int put(int d, int i, int v) {
        if (wantRow(d) != 0) {
            return wantRow(d);
        }
        if (!in(i, 0, shelves[d].numbers.length - 1)) {
            return -13;
        }
        int drop = new int[] {24, 16, 0}[shelves[d].sort];
        shelves[d].numbers[i] = v << drop >> drop;
        return 0;
    }

    public long element(int d, int i) {
        if (!in(d, 0, 7)) {
            throw new IllegalArgumentException();
        }
        if (wantRow(d) != 0 || !in(i, 0, shelves[d].numbers.length - 1)) {
            throw new IllegalStateException();
        }
        return shelves[d].numbers[i];
    }

    public int copy(int d, int i, int e, int j, int n) {
        if (!in(d, 0, 7) || !in(e, 0, 7)) {
            return -1;
        }
        if (shelves[d] == null || shelves[e] == null) {
            return -11;
        }
        if (wantRow(d) != 0 || wantRow(e) != 0 || shelves[d].sort != shelves[e].sort) {
            return -12;
        }
        int[] from = shelves[d].numbers.clone();
        int[] to = shelves[e].numbers;
        if (n < 0 || i < 0 || j < 0 || (long) i + n > from.length || (long) j + n > to.length) {
            return -13;
        }
        for (int m = 0; m < n; m++) {
            to[j + m] = from[i + m];
        }
        return n;
    }

    public int cost(int d) {
        if (wantKind(d) != 0) {
            return wantKind(d);
        }
        int f = shelves[d].figure;
        return new int[] {3, 4, 3 + f, 2, 6 + 2 * f, 4, 1 + 2 * f, 1}[shelves[d].kind];
    }

    public int toss(int d) {
        if (wantKind(d) != 0) {
            return wantKind(d);
        }
        int f = shelves[d].figure;
        int kind = shelves[d].kind;
        if (f == 0 || kind == 3 || kind == 7) {
            return -15;
        }
        return new int[] {f, f, 100 + f, 0, 100 + f, f, 201 + 2 * f, 0}[kind];
    }
}

/** Days on, and who should wake for whom: the first and the last number of DAYS, none and several. */
public final class EdgesInMindTest {
    private static final int[] EVERYBODY = {0, 1, 2, 3, 4, 9};

    private EdgesInMindTest() {
    }

    public static void main(String[] args) {
        zeroDaysOnIsNow();
        sixtyDaysOn();
        dayMayPass999InMind();
        nothingChangesByThought();
        firstAsleepNow();
        firstAsleepOnTheFirstAndSixtieth();
        outNowAndBehindSixty();
        bestWakerOfSeveral();
        bestWakerIsNobody();
        bestWakerHowMuch();
        matchOfNone();
        matchOfSeven();
        matchByAwakeAsNow();
        matchTakesTheLeast();
        matchOfTheNextDay();
        milkIsLessThanAsItIs();
        milkIsHalfCut();
        milkOfSeveral();
        milkLeavesBags();
        fewestOfNone();
        fewestOfAll();
        fewestAsleepForEver();
        fewestNoMoreThanAsItIs();
        storeLeavesOne();
        storeAtItsTop();
        heaviestOfNone();
        heaviestOfSeveral();
        deepest();
        alone();
        restOfNone();
        restAsleepNow();
        restOfSeveral();
        Due.close();
    }

    private static void zeroDaysOnIsNow() {
        BeansOnTheOtherSide x = Rows.after("k009;k213;o012;o134;t399;t160;z2;b077;");
        Due.is("OWES now", x.owesThen(0, 0), 12);
        Due.is("the other", x.owesThen(1, 0), 34);
        Due.is("TIRED now", x.tiredThen(3, 0), 99);
        Due.is("BAGS now", x.then(0, 0), 77);
        Due.is("ASLEEP now", x.then(0, 1), 4);
        Due.is("OWED now", x.then(0, 2), 46);
        Due.is("best WAKER of several is 0", x.bestWaker(1, 0, 0), 0);
        Due.is("as much as now", x.bestWaker(1, 0, 1), 46);
        x = new BeansOnTheOtherSide();
        Due.is("60 BAGS", x.then(0, 0), 60);
        Due.is("nobody ASLEEP", x.then(0, 1), 0);
        Due.is("nothing OWED", x.then(0, 2), 0);
    }

    private static void sixtyDaysOn() {
        BeansOnTheOtherSide x = Rows.after("k309;k009;b182;z4;t499;k704;");
        Due.is("60 by 3 of 182", x.then(60, 0), 2);
        Due.is("59 by 3", x.then(59, 0), 5);
        Due.is("OWED", x.then(60, 2), 180);
        Due.is("of the NURSE", x.owesThen(0, 60), 60);
        Due.is("of the other", x.owesThen(1, 60), 120);
        Due.is("on the way there", x.owesThen(1, 59), 118);
        // 84, 69, 54, 39, 24, 9 and AWAKE: 12, and 3 a DAY: 57 on DAY 21, 62 on DAY 22.
        Due.is("ASLEEP till DAY 5", x.then(5, 1), 16);
        Due.is("AWAKE on DAY 6", x.then(6, 1), 0);
        Due.is("12 on DAY 6", x.tiredThen(4, 6), 12);
        Due.is("57 on DAY 21", x.tiredThen(4, 21), 57);
        Due.is("62 on DAY 22", x.tiredThen(4, 22), 62);
        Due.is("ASLEEP on DAY 22", x.then(22, 1), 16);
        // 47, 32 and AWAKE on DAY 25: 17 and 5, 20; from there 3 a DAY: 56 on DAY 37.
        Due.is("17, and 5, 2 less", x.tiredThen(4, 25), 20);
        Due.is("56 on DAY 37", x.tiredThen(4, 37), 56);
        Due.is("61 on DAY 38", x.tiredThen(4, 38), 61);
        Due.is("46 on DAY 39", x.tiredThen(4, 39), 46);
        BeansOnTheOtherSide gone = Rows.after("k309;k009;b182;z4;t499;k704;d60;");
        Due.is("TIRED as 60 DAYS make it", x.tiredThen(4, 60), gone.waker(4, 0));
        Due.is("ASLEEP as 60 DAYS make it", x.then(60, 1), gone.count(4));
    }

    private static void dayMayPass999InMind() {
        BeansOnTheOtherSide x = Rows.onDay(999, "k109;k509;b999;");
        Due.is("a CLERK: 30 odd DAYS of 60", x.owesThen(0, 60), 150);
        Due.is("a LOVER: 10 by 3, 3, 2, 2", x.owesThen(1, 60), 100);
        Due.is("BAGS", x.then(60, 0), 749);
        Due.is("DAY 1000: 2 and 2", x.then(1, 2), 4);
        Due.is("DAY 1001: 3 and 3", x.then(2, 2), 10);
        Due.is("DAY 1002: 2 and 0", x.then(3, 2), 12);
        Due.is("DAY 999 yet", x.count(1), 999);
        Due.is("out of 250", x.bags(250) - 999 + x.out(), 60);
        Due.is("STORE", x.store(60), 251);
        Due.is("MILK: 1 of 2, 1 of 3", x.milk(30), 0);
        Due.is("FEWEST", x.fewest(30), 0);
        Due.is("REST", x.rest(30, 1), 125);
        Due.is("FALLS", x.falls(2, 2, 10, 0), 1);
        Due.is("YEARS", x.years(1, 0, 1) >= 0 ? 1 : 0, 1);
        Due.is("best WAKER", x.bestWaker(0, 60, 0), 0);
    }

    private static void nothingChangesByThought() {
        BeansOnTheOtherSide x = Rows.after("k010;k121;k272;k303;k454;k569;k682;t355;z1;b400;");
        Rows.tell(x, 0, Rows.BYTES, -128, -128, -128);
        String before = State.of(x);
        x.owesThen(6, 60);
        x.tiredThen(4, 60);
        x.then(60, 0);
        x.firstAsleep(4);
        x.out();
        x.bestWaker(3, 60, 0);
        x.match(-1);
        x.match(6);
        x.milk(30);
        x.fewest(30);
        x.store(60);
        x.heaviest(2);
        x.rest(30, 0);
        x.whatIs(0, 2, 0);
        x.whatIs(0, 2, 1);
        x.shed(0, 0);
        x.two(0, 6, 30);
        x.falls(7, 20, 5, 0);
        x.mean(0);
        x.forged(0);
        x.judge(0);
        x.years(20, -1, 0);
        x.image();
        Due.holds("nothing changes by thought", before.equals(State.of(x)));
    }

    private static void firstAsleepNow() {
        BeansOnTheOtherSide x = Rows.after("z0;z1;t199;t260;t359;");
        Due.is("0 TIRED, but ASLEEP", x.firstAsleep(0), 0);
        Due.is("99 and ASLEEP", x.firstAsleep(1), 0);
        Due.is("60 and AWAKE", x.firstAsleep(2), 1);
        Due.is("59 and AWAKE", x.firstAsleep(3), -4);
        Due.is("0 and AWAKE", x.firstAsleep(4), -4);
        Due.is("a new object", new BeansOnTheOtherSide().firstAsleep(0), -4);
    }

    private static void firstAsleepOnTheFirstAndSixtieth() {
        BeansOnTheOtherSide x = Rows.after("k000;t053;");
        Due.is("59 on DAY 1, 61 on DAY 2", x.firstAsleep(0), 2);
        x.tires(0, 54);
        Due.is("60 on DAY 1", x.firstAsleep(0), 1);
        // A SAINT, and a SMUGGLER who tires nobody, make 3 a DAY: 3 (n - 1) and 5.
        x = Rows.after("k700;k600;b999;");
        Due.is("20 DAYS: 57 and 5", x.firstAsleep(0), 20);
        // Three NURSES make 1 a DAY behind a DAY's end: t, and n - 1, and 3 are 60 first.
        x = Rows.after("k302;k302;k302;b180;");
        Due.is("57 on the 58th", x.firstAsleep(2), 58);
        x = Rows.after("k302;k302;k302;k602;b999;");
        Due.is("a SMUGGLER tires nobody", x.firstAsleep(2), 58);
        // Two NURSES, and a LOVER who tires 2 on two DAYS of six: 56, and 4 on the 60th.
        x = Rows.after("d01;k300;k300;k540;t018;b999;");
        Due.is("on the 60th", x.firstAsleep(0), 60);
        x.tires(0, 17);
        Due.is("not on the 60th", x.firstAsleep(0), -4);
        // From DAY 0 on: 18 and 38 on DAY 58, and 4 on the 59th; 16 and 40, and 4 on the 61st.
        x = Rows.after("k300;k300;k540;t018;b999;");
        Due.is("on the 59th", x.firstAsleep(0), 59);
        x.tires(0, 16);
        Due.is("on the 61st", x.firstAsleep(0), -4);
        Due.is("AWAKE on the 60th", x.then(60, 1), 0);
    }

    private static void outNowAndBehindSixty() {
        BeansOnTheOtherSide x = new BeansOnTheOtherSide();
        Due.is("nobody DRINKS 60", x.out(), -4);
        x.bags(0);
        Due.is("there are none", x.out(), 0);
        x = Rows.after("k309;b060;");
        Due.is("60 by 1", x.out(), 60);
        x.bags(61);
        Due.is("one left", x.out(), -4);
        x.bags(1);
        Due.is("one", x.out(), 1);
        x.bags(0);
        Due.is("none", x.out(), 0);
        x = Rows.after("k709;b001;");
        Due.is("a SAINT", x.out(), -4);
        x = Rows.after("k499;k499;k499;k499;k499;k499;k499;b999;");
        Due.is("84 a DAY of 999", x.out(), 12);
        x.bags(924);
        Due.is("84 a DAY of 924", x.out(), 11);
        x.bags(925);
        Due.is("84 a DAY of 925", x.out(), 12);
        x = Rows.after("k009;b121;");
        Due.is("121 by 2", x.out(), -4);
        x.bags(120);
        Due.is("120 by 2", x.out(), 60);
        x.bags(119);
        Due.is("119 by 2: the last is 1", x.out(), 60);
    }

    private static void bestWakerOfSeveral() {
        for (int first = 0; first < 5; first++) {
            BeansOnTheOtherSide x = Rows.after("k009;");
            for (int w = 0; w < first; w++) {
                x.tires(w, 99);
                x.sleeps(w);
            }
            Due.is("the least of those AWAKE", x.bestWaker(0, 3, 0), first);
            Due.is("nothing OWED", x.bestWaker(0, 3, 1), 0);
        }
        BeansOnTheOtherSide x = Rows.after("k009;z0;z1;z2;z3;z4;t099;t199;t299;t399;t499;");
        Due.is("all ASLEEP: 0 ahead of nobody", x.bestWaker(0, 5, 0), 0);
        Due.is("10 OWED", x.bestWaker(0, 5, 1), 10);
        x = Rows.after("k009;b000;");
        Due.is("no BAGS: 0", x.bestWaker(0, 60, 0), 0);
        Due.is("nothing OWED", x.bestWaker(0, 60, 1), 0);
    }

    /** A SAINT OWES nothing, but a WAKER sleeps by him sooner, and others OWE. */
    private static void bestWakerIsNobody() {
        String others = "k000;k001;k002;k003;k004;b999;";
        BeansOnTheOtherSide x = Rows.after("k709;" + others);
        Due.is("on DAY 7 each would sleep, which costs nothing yet", x.bestWaker(0, 7, 0), 0);
        Due.is("on DAY 8 it costs 2", x.bestWaker(0, 8, 0), 9);
        Due.is("nothing by nobody", x.bestWaker(0, 8, 1), 0);
        x = Rows.after("k700;" + others);
        Due.is("whoever he has", x.bestWaker(0, 8, 0), 9);
        Due.is("as it is: 2", x.then(8, 2), 2);
    }

    private static void bestWakerHowMuch() {
        BeansOnTheOtherSide x = Rows.after("k009;k609;k009;o199;o250;t099;t199;t299;t399;t454;b999;");
        // 4 is 60 on DAY 1, others 99: ASLEEP all; 4 is AWAKE again on DAY 4, others on DAY 7.
        Due.is("4 in 9 DAYS", x.bestWaker(0, 9, 0), 4);
        int owed = 99 + 9 * 6 + 50 + 9 * 2;
        Due.is("DAYS 2 and 3", x.bestWaker(0, 9, 1), owed + 4);
        Due.is("0 in 1 DAY", x.bestWaker(0, 1, 0), 0);
        Due.is("the others OWE", x.bestWaker(0, 1, 1), 99 + 6 + 50 + 2);
        for (int w : EVERYBODY) {
            x.wakes(0, w);
            Due.is("whoever wakes now: " + w, x.bestWaker(0, 9, 0), 4);
        }
    }

    private static void matchOfNone() {
        BeansOnTheOtherSide x = new BeansOnTheOtherSide();
        Due.is("no DRINKERS: no cups", x.match(-1), 0);
        Due.is("no first", x.match(0), -1);
        x = Rows.after("k009;k309;z0;z1;z2;z3;z4;");
        Due.is("no WAKERS: no cups", x.match(-1), 0);
        Due.is("nobody for the first", x.match(0), -4);
        Due.is("nobody for the second", x.match(1), -4);
        Due.is("no third", x.match(2), -1);
    }

    private static void matchOfSeven() {
        BeansOnTheOtherSide x = Rows.after("k309;k269;k009;k469;k709;k689;k289;");
        // 1, 5, 2, 10, 0, 11, 6: the first and the SAINT have nobody.
        Due.is("5, 2, 10, 11, 6", x.match(-1), 34);
        int[] has = {-4, 0, 1, 2, -4, 3, 4};
        for (int k = 0; k < 7; k++) {
            Due.is("match of " + k, x.match(k), has[k]);
        }
        Due.is("no eighth", x.match(7), -1);
        x = Rows.after("k009;k009;k009;k009;k009;k009;k009;z0;z2;");
        int[] three = {1, 3, 4, -4, -4, -4, -4};
        Due.is("three by 2", x.match(-1), 6);
        for (int k = 0; k < 7; k++) {
            Due.is("of equals the first: " + k, x.match(k), three[k]);
        }
    }

    private static void matchByAwakeAsNow() {
        BeansOnTheOtherSide x = Rows.after("k009;z0;z1;t100;z2;t234;z3;t499;");
        Due.is("4, AWAKE though 99", x.match(0), 4);
        Due.is("by 4 alone", x.match(-1), 2);
        x.sleeps(4);
        Due.is("none, though three would wake up", x.match(0), -4);
        Due.is("no cups", x.match(-1), 0);
        x.sleeps(2);
        Due.is("2", x.match(0), 2);
        x = Rows.after("k000;");
        Due.is("his WAKER now does not matter", x.match(0), 0);
        x.wakes(0, 9);
        Due.is("nobody now does not matter", x.match(0), 0);
    }

    private static void matchTakesTheLeast() {
        BeansOnTheOtherSide x = Rows.after("k009;k709;k109;z0;z2;z4;");
        Due.is("2 and 3 cups", x.match(-1), 5);
        Due.is("the least", x.match(0), 1);
        Due.is("nobody for no cups", x.match(1), -4);
        Due.is("the last", x.match(2), 3);
        x = Rows.after("k009;k709;k109;z0;z2;");
        Due.is("one for no cups", x.match(1), 3);
        Due.is("the third", x.match(2), 4);
        x = Rows.after("k709;k709;k709;k709;k709;k709;k709;");
        Due.is("no cups at all", x.match(-1), 0);
        for (int k = 0; k < 7; k++) {
            Due.is("SAINTS in a row: " + k, x.match(k), k < 5 ? k : -4);
        }
        x = Rows.after("k009;k109;z0;z1;z3;z4;");
        Due.is("3 cups ahead of 2", x.match(0), -4);
        Due.is("3 cups", x.match(1), 2);
    }

    private static void matchOfTheNextDay() {
        BeansOnTheOtherSide x = Rows.onDay(998, "k109;k009;k509;z0;z1;z2;z3;b000;");
        Due.is("DAY 999: 3 of a CLERK, though no BAGS", x.match(-1), 3);
        Due.is("the CLERK", x.match(0), 4);
        Due.is("not the LOVER", x.match(2), -4);
        x.days(1);
        Due.is("ASLEEP again", Rows.treaty(x, "z0;z1;z2;z3;"), 4);
        Due.is("DAY 1000: 2 of any", x.match(-1), 2);
        Due.is("the CLERK, of equals", x.match(0), 4);
        x = Rows.after("d01;k509;z0;");
        Due.is("DAY 2: 2 of a LOVER", x.match(-1), 2);
        Due.is("the LOVER", x.match(0), 1);
        x.days(1);
        Due.is("DAY 3: 0 of a LOVER", x.match(-1), 0);
        Due.is("the LOVER for no cups", x.match(0), 0);
        x = Rows.after("d02;k509;k309;z0;z1;z2;z3;");
        Due.is("DAY 3: 1 of a NURSE, 0 of a LOVER", x.match(-1), 1);
        Due.is("the NURSE", x.match(1), 4);
        x.days(1);
        Due.is("ASLEEP again", Rows.treaty(x, "z0;z1;z2;z3;"), 4);
        Due.is("DAY 4: 2 of a LOVER", x.match(-1), 2);
        Due.is("not the NURSE", x.match(1), -4);
    }

    private static void milkIsLessThanAsItIs() {
        BeansOnTheOtherSide x = Rows.after("k009;k109;o055;o155;");
        Due.is("0 DAYS: as it is", x.milk(0), -4);
        Due.is("1 DAY: 1 of 2 is 1 less, 1 of 3 is 2 less", x.milk(1), 1);
        Due.is("no DRINKERS", new BeansOnTheOtherSide().milk(30), -4);
        x = Rows.after("k009;k109;b000;");
        Due.is("no BAGS", x.milk(30), -4);
        x = Rows.after("k000;k101;");
        Due.is("all are woken for", x.milk(3), -4);
        x = Rows.after("k709;");
        Due.is("a SAINT", x.milk(30), -4);
        x = Rows.after("k699;o069;b999;d30;");
        Due.is("who OWES 999 OWES no less by it", x.milk(30), -4);
        x = Rows.after("k699;o069;b999;d30;b999;k309;");
        Due.is("but the next one does", x.milk(30), 1);
    }

    private static void milkIsHalfCut() {
        BeansOnTheOtherSide x = Rows.after("k309;k009;");
        Due.is("0 of 1 and 1 of 2: 1 less by each", x.milk(1), 0);
        x = Rows.after("k309;k109;");
        Due.is("1 of 3: 2 less", x.milk(1), 1);
        x = Rows.after("k009;k509;");
        Due.is("a LOVER: 1 of 3", x.milk(1), 1);
        x = Rows.after("k289;k609;");
        Due.is("3 of 6: 6 less; 1 of 3: 4 less", x.milk(1), 0);
        x = Rows.after("k609;k259;");
        Due.is("1 of 3: 4 less; 2 of 4: 4 less", x.milk(1), 0);
        x = Rows.after("k609;k269;");
        Due.is("1 of 3: 4 less; 2 of 5: 6 less", x.milk(1), 1);
        x = Rows.after("k659;k309;");
        Due.is("the FIGURE is OWED as ever: 3 of 7, 8 less", x.milk(1), 0);
        // A WAKER who TIRES less by milk lasts.
        x = Rows.after("k001;t154;k309;");
        Due.is("1 DAY: 1 less by the NURSE", x.milk(1), 1);
        Due.is("4 DAYS: 6 less by a WAKER who lasts", x.milk(4), 0);
    }

    private static void milkOfSeveral() {
        BeansOnTheOtherSide x = Rows.after("k709;k009;k009;k009;");
        Due.is("of equals the first", x.milk(5), 1);
        x = Rows.after("k009;k009;k009;k009;k009;k009;k469;");
        Due.is("the seventh", x.milk(30), 6);
        Due.is("the seventh in 1 DAY", x.milk(1), 6);
    }

    private static void milkLeavesBags() {
        BeansOnTheOtherSide x = Rows.after("k009;k209;b003;");
        // As it is: 2, and 2 for 1. By milk of the first: 1, and 4. Of the other: 2, and 2 for 1.
        Due.is("what he leaves the other DRINKS", x.milk(1), -4);
        x = Rows.after("k209;k009;b003;");
        Due.is("the BANKER: 2 for 1, and 2", x.milk(1), 0);
        x = Rows.after("k009;b001;");
        Due.is("half of 2 is all there is", x.milk(30), -4);
        x = Rows.after("k009;b002;");
        Due.is("1 less on DAY 1", x.milk(1), 0);
        Due.is("all the same on DAY 2", x.milk(2), -4);
    }

    private static void fewestOfNone() {
        Due.is("no DRINKERS", new BeansOnTheOtherSide().fewest(30), 0);
        BeansOnTheOtherSide x = Rows.after("k000;k101;k304;");
        Due.is("0 DAYS", x.fewest(0), 0);
        Due.is("1 DAY", x.fewest(1), 19);
        x.bags(0);
        Due.is("no BAGS", x.fewest(30), 0);
        x = Rows.after("k009;k109;");
        Due.is("nobody's", x.fewest(30), 0);
        x = Rows.after("k700;k704;");
        Due.is("SAINTS OWE nothing", x.fewest(30), 0);
        x = Rows.after("d02;k503;");
        Due.is("a LOVER DRINKS nothing on DAY 3", x.fewest(1), 0);
        Due.is("he does on DAY 4", x.fewest(2), 8);
    }

    private static void fewestOfAll() {
        BeansOnTheOtherSide x = Rows.after("k300;k301;k302;k303;k304;");
        Due.is("all five", x.fewest(1), 31);
        Due.is("all five in 30 DAYS", x.fewest(30), 31);
        x.bags(4);
        Due.is("four BAGS", x.fewest(1), 15);
        x.bags(1);
        Due.is("one BAG", x.fewest(30), 1);
        for (int w = 0; w < 5; w++) {
            x = Rows.after("k30" + w + ";");
            Due.is("one of five", x.fewest(30), 1 << w);
        }
    }

    private static void fewestAsleepForEver() {
        BeansOnTheOtherSide x = Rows.after("k004;z4;t434;");
        Due.is("19 wakes up on DAY 1", x.fewest(1), 16);
        x.tires(4, 35);
        Due.is("20 does not", x.fewest(1), 0);
        Due.is("he does on DAY 2", x.fewest(2), 16);
        x.tires(4, 99);
        Due.is("not in 5 DAYS", x.fewest(5), 0);
        Due.is("but in 6", x.fewest(6), 16);
        x = Rows.after("k004;");
        Due.is("ASLEEP and 0 TIRED, and yet for ever", x.fewest(1), 16);
    }

    private static void fewestNoMoreThanAsItIs() {
        BeansOnTheOtherSide x = Rows.after("k691;o069;b999;w09;d30;w01;b999;");
        Due.is("who OWES 999 OWES no more", x.fewest(30), 0);
        Due.is("one who OWES", Rows.treaty(x, "k302;"), 1);
        Due.is("2 for him", x.fewest(30), 4);
        x = Rows.after("k691;o068;b999;w09;d30;w01;b999;");
        Due.is("998 may be 999", x.fewest(1), 2);
    }

    private static void storeLeavesOne() {
        BeansOnTheOtherSide x = new BeansOnTheOtherSide();
        Due.is("nobody DRINKS, 0 DAYS", x.store(0), 1);
        Due.is("nobody DRINKS, 60 DAYS", x.store(60), 1);
        x.bags(0);
        Due.is("BAGS now do not matter", x.store(60), 1);
        x = Rows.after("k309;b000;");
        Due.is("0 DAYS", x.store(0), 1);
        Due.is("1 DAY", x.store(1), 2);
        Due.is("60 DAYS", x.store(60), 61);
        x = Rows.after("k709;");
        Due.is("a SAINT", x.store(60), 1);
        x = Rows.after("k509;");
        Due.is("a LOVER: 3, 2, 0", x.store(3), 6);
        Due.is("2 more", x.store(4), 8);
        BeansOnTheOtherSide later = Rows.after("k509;d01;");
        Due.is("from DAY 1 on: 2", later.store(1), 3);
        Due.is("2 and 0", later.store(2), 3);
        Due.is("2, 0 and 2", later.store(3), 5);
        later.days(1);
        Due.is("from DAY 2 on: 0", later.store(1), 1);
        Due.is("0 and 2", later.store(2), 3);
        for (int n = 0; n <= 60; n++) {
            int b = x.store(n);
            x.bags(b);
            Due.is("one left behind " + n, x.then(n, 0), 1);
            x.bags(b - 1);
            Due.is("none left of one less", x.then(n, 0), 0);
        }
    }

    private static void storeAtItsTop() {
        // 16 a DAY and a CLERK: behind 54 DAYS 864 and 135.
        BeansOnTheOtherSide x = Rows.after("k469;k289;k109;");
        Due.is("864 and 135, and 1, is 1000", x.store(54), -4);
        Due.is("848 and 133, and 1", x.store(53), 982);
        x = Rows.after("k469;k289;k109;d01;");
        Due.is("from DAY 2 on 53 DAYS: 848 and 132, and 1", x.store(53), 981);
        x = Rows.after("k109;k289;k289;k309;k009;");
        Due.is("999", x.store(57), 999);
        x = Rows.after("k499;k499;k499;k499;k499;k499;k499;");
        Due.is("84 by 11, and 1", x.store(11), 925);
        Due.is("84 by 12", x.store(12), -4);
        Due.is("84 by 60", x.store(60), -4);
        x = Rows.after("k289;k289;k289;k289;k009;k309;");
        Due.is("27 by 37 is 999: 1000", x.store(37), -4);
    }

    private static void heaviestOfNone() {
        BeansOnTheOtherSide x = new BeansOnTheOtherSide();
        Due.is("of several the least", x.heaviest(0), 0);
        Due.is("none", x.heaviest(1), 0);
        Due.is("no deepest", x.heaviest(2), -4);
        Due.is("none alone", x.heaviest(3), 0);
        x = Rows.after("k009;k009;k009;k009;k009;k009;k009;");
        Due.is("nobody is no WAKER", x.heaviest(0), 0);
        Due.is("none has any", x.heaviest(1), 0);
    }

    private static void heaviestOfSeveral() {
        for (int w = 0; w < 5; w++) {
            String one = "k00" + w + ";";
            BeansOnTheOtherSide x = Rows.after(one + one + one + one + one + one + one);
            Due.is("all seven", x.heaviest(0), w);
            Due.is("seven", x.heaviest(1), 7);
            Due.is("one of five", Rows.after(one).heaviest(0), w);
        }
        BeansOnTheOtherSide x = Rows.after("k004;k003;k004;k003;k009;k009;k009;");
        Due.is("3 and 4 have two", x.heaviest(0), 3);
        Due.is("two, though nobody has three", x.heaviest(1), 2);
        x.sleeps(3);
        Due.is("ASLEEP or not", x.heaviest(0), 3);
        x.wakes(4, 4);
        Due.is("4 has three", x.heaviest(0), 4);
        Due.is("three", x.heaviest(1), 3);
        Due.is("one more in all", Rows.after("k000;k001;k002;k003;k004;k004;").heaviest(0), 4);
        Due.is("one each", Rows.after("k004;k003;k002;k001;k000;").heaviest(0), 0);
    }

    private static void deepest() {
        BeansOnTheOtherSide x = Rows.after("k009;k009;k009;");
        Due.is("nothing OWED by any: the first", x.heaviest(2), 0);
        Rows.treaty(x, "o201;");
        Due.is("1 OWED", x.heaviest(2), 2);
        Rows.treaty(x, "o101;");
        Due.is("1 by two", x.heaviest(2), 1);
        Rows.treaty(x, "o298;o199;o098;");
        Due.is("99", x.heaviest(2), 1);
        x = Rows.after("k609;k699;k699;o199;o299;b999;d30;");
        Due.is("999 by two", x.heaviest(2), 1);
        x = Rows.after("k009;k009;k009;k009;k009;k009;k009;o699;");
        Due.is("the seventh", x.heaviest(2), 6);
    }

    private static void alone() {
        BeansOnTheOtherSide x = Rows.after("k000;k001;k002;k003;k004;k000;k004;");
        Due.is("none", x.heaviest(3), 0);
        Rows.treaty(x, "z0;z4;");
        Due.is("by ASLEEP ones", x.heaviest(3), 1 + 16 + 32 + 64);
        Rows.treaty(x, "w19;w69;");
        Due.is("with nobody, too", x.heaviest(3), 1 + 2 + 16 + 32 + 64);
        Rows.treaty(x, "z1;z2;z3;");
        Due.is("all", x.heaviest(3), 127);
        x = Rows.after("z0;z1;z2;z3;z4;");
        Due.is("none has come", x.heaviest(3), 0);
        Rows.treaty(x, "k000;k004;");
        Due.is("two have", x.heaviest(3), 3);
        Due.is("seven with nobody", Rows.after("k009;k009;k009;k009;k009;k009;k009;").heaviest(3), 127);
    }

    private static void restOfNone() {
        BeansOnTheOtherSide x = new BeansOnTheOtherSide();
        Due.is("no DRINKERS: the least", x.rest(1, 0), 0);
        Due.is("nothing", x.rest(1, 1), 0);
        Due.is("30 DAYS", x.rest(30, 0), 0);
        Due.is("nothing", x.rest(30, 1), 0);
        x = Rows.after("k009;o077;b000;");
        Due.is("as it is", x.rest(30, 1), 77);
    }

    private static void restAsleepNow() {
        String four = "k001;k002;k003;k004;t140;t240;t340;t440;";
        BeansOnTheOtherSide x = Rows.after("k000;" + four + "t034;");
        Due.is("34 wakes up on DAY 1", x.rest(1, 0), 0);
        Due.is("nothing", x.rest(1, 1), 0);
        x = Rows.after("k000;" + four + "t035;");
        Due.is("35 does not", x.rest(1, 1), 2);
        x = Rows.after("k300;" + four + "t099;");
        Due.is("1 DAY: a NURSE's cup is the least", x.rest(1, 0), 0);
        Due.is("one", x.rest(1, 1), 1);
        // As it is 0 is ASLEEP on DAYS 2 .. 5: one DAY more is 1, another's first DAY is 2.
        Due.is("5 DAYS", x.rest(5, 0), 0);
        Due.is("five", x.rest(5, 1), 5);
        x = Rows.after("k000;" + four + "t040;z0;");
        Due.is("who is ASLEEP stays so", x.rest(1, 0), 0);
        Due.is("and costs nothing more", x.rest(1, 1), 2);
        Due.is("as it is", x.then(1, 2), 2);
    }

    private static void restOfSeveral() {
        for (int free = 0; free < 5; free++) {
            BeansOnTheOtherSide x = Rows.after("k000;k001;k002;k003;k004;t040;t140;t240;t340;t440;");
            x.wakes(free, 9);
            Due.is("who has none", x.rest(1, 0), free);
            Due.is("2 by him with nobody", x.rest(1, 1), 2);
        }
        BeansOnTheOtherSide x = Rows.after("k000;k001;k002;k003;k004;t040;t140;t240;t340;t440;");
        Due.is("of equals the least", x.rest(1, 0), 0);
    }
}

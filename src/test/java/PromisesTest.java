/** Each promise of the document by hand: ordinary calls, the edges it names, wrong calls. */
public final class PromisesTest {
    private static final long REFUSED = 1000000001L;

    private PromisesTest() {
    }

    public static void main(String[] args) {
        promise1NewObject();
        promise2Treaty();
        promise2FaultsOfKind1();
        promise2FaultsOfKind2();
        promise3Drinker();
        promise4Waker();
        promise5Comes();
        promise6Wakes();
        promise7Tires();
        promise8Sleeps();
        promise9Bags();
        promise10Days();
        promise10DaysOfEachKind();
        promise11OwesThen();
        promise12TiredThen();
        promise13Then();
        promise14FirstAsleep();
        promise15Out();
        promise16BestWaker();
        promise17Match();
        promise18Milk();
        promise19Fewest();
        promise20Store();
        promise21Heaviest();
        promise22Rest();
        promise23WhatIs();
        promise24Shed();
        promise25Two();
        promise26Falls();
        promise27Mean();
        promise28Forged();
        promise29Judge();
        promise30Years();
        promise31And32Image();
        promise33Count();
        promise34Keep();
        promise35Row();
        promise36Put();
        promise37Element();
        promise38Copy();
        promise39Cost();
        promise40Toss();
        Due.close();
    }

    private static void promise1NewObject() {
        BeansOnTheOtherSide x = new BeansOnTheOtherSide();
        int[] counts = {0, 0, 60, 0, 0, 0};
        for (int what = 0; what < 6; what++) {
            Due.is("new: count(" + what + ")", x.count(what), counts[what]);
        }
        for (int w = 0; w < 5; w++) {
            Due.is("new: waker(w, 0)", x.waker(w, 0), 0);
            Due.is("new: waker(w, 1)", x.waker(w, 1), 1);
        }
        for (int d = 0; d < 8; d++) {
            Due.is("new: cost(" + d + ")", x.cost(d), -11);
        }
        Due.is("new: drinker(0, 0)", x.drinker(0, 0), -1);
    }

    private static void promise2Treaty() {
        BeansOnTheOtherSide x = new BeansOnTheOtherSide();
        Due.is("treaty of all letters", Rows.treaty(x, "k240;t010;w01;o012;z2;b500;d01;"), 7);
        Due.is("kind", x.drinker(0, 0), 2);
        Due.is("figure", x.drinker(0, 1), 4);
        Due.is("waker", x.drinker(0, 2), 1);
        Due.is("owes", x.drinker(0, 3), 12);
        Due.is("4 cups less", x.count(2), 496);
        Due.is("tired 10 less 2", x.waker(0, 0), 8);
        Due.is("tired 16 less 2", x.waker(1, 0), 14);
        Due.is("asleep, and awake again below 20", x.waker(2, 1), 1);
        Due.is("the row stays", x.element(7, 0), 'k');
        Due.is("done again", x.treaty(7), 7);
        Due.is("two drinkers", x.count(0), 2);
        Due.is("edges in range", Rows.treaty(x, "k799;t499;z4;b999;b000;o199;w19;d60;"), 8);
        Due.is("day", x.count(1), 62);
        Due.is("z again wakes", Rows.treaty(x, "z3;z3;z3;"), 3);
        Due.is("asleep", x.waker(3, 1), 0);
        Due.is("treaty(-1)", x.treaty(-1), -1);
        Due.is("treaty(8)", x.treaty(8), -1);
        Due.is("treaty of nothing", x.treaty(0), -11);
        x.keep(0, 1, 2, 3);
        Due.is("treaty of a kind", x.treaty(0), -12);
        x.row(0, 1, 5);
        Due.is("treaty of shorts", x.treaty(0), -12);
        x.row(0, 2, 5);
        Due.is("treaty of ints", x.treaty(0), -12);
    }

    private static void fault(String text, int want) {
        BeansOnTheOtherSide x = new BeansOnTheOtherSide();
        Due.is("treaty \"" + text + "\"", Rows.treaty(x, text), want);
        Due.is("nothing comes: drinkers", x.count(0), 0);
        Due.is("nothing comes: bags", x.count(2), 60);
        Due.is("nothing comes: day", x.count(1), 0);
        Due.is("nothing comes: asleep", x.count(4), 0);
        Due.is("nothing comes: tired", x.count(5), 0);
    }

    private static void promise2FaultsOfKind1() {
        fault("", -1000);
        fault(";", -1000);
        fault("x", -1000);
        fault("K000;", -1000);
        fault("k", -1001);
        fault("k0", -1002);
        fault("k00", -1003);
        fault("k000", -1004);
        fault("k0000;", -1004);
        fault("k0a0;", -1002);
        fault("k/00;", -1001);
        fault("k:00;", -1001);
        fault("b500;;", -1005);
        fault("b500; z1;", -1005);
        fault("b50;", -1003);
        fault("z;", -1001);
        fault("z11;", -1002);
        fault("w0;", -1002);
        fault("d1;", -1002);
        fault("d123;", -1003);
        fault("t01;", -1003);
        fault("o01;", -1003);
        fault("b500;z1;t0", -1010);
        fault("k899;x", -1005);
        fault("\u00ff", -1000);
        fault("b500;\u00eb000;", -1005);
    }

    private static void promise2FaultsOfKind2() {
        fault("k800;", -2000);
        fault("k005;", -2000);
        fault("k008;", -2000);
        fault("w00;", -2000);
        fault("b500;z1;t099;k000;w10;", -2018);
        fault("k000;w05;", -2005);
        fault("k000;w08;", -2005);
        fault("t500;", -2000);
        fault("t999;", -2000);
        fault("z5;", -2000);
        fault("o000;", -2000);
        fault("k000;o100;", -2005);
        fault("b500;d00;", -2005);
        fault("d61;", -2000);
        fault("d99;", -2000);
        fault("d60;d60;d60;d60;d60;d60;d60;d60;d60;d60;d60;d60;d60;d60;d60;d60;d40;", -2064);
        fault("k000;k000;k000;k000;k000;k000;k000;k000;", -2035);
        BeansOnTheOtherSide x = Rows.after("d60;d60;d60;d60;d60;d60;d60;d60;d60;d60;d60;d60;d60;d60;d60;d60;d39;");
        Due.is("day 999", x.count(1), 999);
        Due.is("no day more", Rows.treaty(x, "z1;d01;"), -2003);
        Due.is("nobody asleep by it", x.count(4), 0);
    }

    private static void promise3Drinker() {
        BeansOnTheOtherSide x = Rows.after("k049;k142;k249;k349;k449;k549;k649;o155;");
        int[] odd = {2, 3, 4, 1, 8, 3, 7};
        for (int k = 0; k < 7; k++) {
            Due.is("kind of " + k, x.drinker(k, 0), k);
            Due.is("figure of " + k, x.drinker(k, 1), 4);
            Due.is("next of " + k + " on day 1", x.drinker(k, 4), odd[k]);
        }
        Due.is("waker", x.drinker(1, 2), 2);
        Due.is("nobody", x.drinker(0, 2), 9);
        Due.is("owes", x.drinker(1, 3), 55);
        Due.is("owes nothing", x.drinker(0, 3), 0);
        x.bags(0);
        x.days(1);
        Due.is("next of a clerk on day 2, without bags", x.drinker(1, 4), 2);
        Due.is("next of a lover on day 2", x.drinker(5, 4), 2);
        x.days(1);
        Due.is("next of a clerk on day 3", x.drinker(1, 4), 3);
        Due.is("next of a lover on day 3", x.drinker(5, 4), 0);
        Due.is("drinker(-1, 0)", x.drinker(-1, 0), -1);
        Due.is("drinker(7, 0)", x.drinker(7, 0), -1);
        Due.is("drinker(0, -1)", x.drinker(0, -1), -1);
        Due.is("drinker(0, 5)", x.drinker(0, 5), -1);
        x = Rows.after("k799;k299;");
        Due.is("a saint drinks nothing", x.drinker(0, 4), 0);
        Due.is("a banker of figure 9", x.drinker(1, 4), 6);
        Due.is("no third", x.drinker(2, 0), -1);
    }

    private static void promise4Waker() {
        BeansOnTheOtherSide x = Rows.after("k001;k001;k009;t133;z4;");
        Due.is("tired", x.waker(1, 0), 33);
        Due.is("awake", x.waker(1, 1), 1);
        Due.is("asleep", x.waker(4, 1), 0);
        Due.is("two", x.waker(1, 2), 2);
        Due.is("none", x.waker(0, 2), 0);
        Due.is("waker(-1, 0)", x.waker(-1, 0), -1);
        Due.is("waker(5, 0)", x.waker(5, 0), -1);
        Due.is("waker(9, 2)", x.waker(9, 2), -1);
        Due.is("waker(0, 3)", x.waker(0, 3), -1);
        Due.is("waker(0, -1)", x.waker(0, -1), -1);
    }

    private static void promise5Comes() {
        BeansOnTheOtherSide x = new BeansOnTheOtherSide();
        Due.is("comes(8, 0)", x.comes(8, 0), -1);
        Due.is("comes(-1, 0)", x.comes(-1, 0), -1);
        Due.is("comes(0, 5)", x.comes(0, 5), -1);
        Due.is("comes(0, 8)", x.comes(0, 8), -1);
        Due.is("comes(0, 10)", x.comes(0, 10), -1);
        Due.is("comes(0, -1)", x.comes(0, -1), -1);
        Due.is("comes of nothing", x.comes(0, 0), -11);
        x.row(0, 0, 3);
        Due.is("comes of a row", x.comes(0, 0), -12);
        x.keep(0, 1, 5, 7);
        for (int k = 0; k < 7; k++) {
            Due.is("comes, number " + k, x.comes(0, k < 5 ? k : 9), k);
        }
        Due.is("no room", x.comes(0, 0), -2);
        Due.is("out of range ahead of no room", x.comes(0, 7), -1);
        Due.is("a row ahead of no room", x.row(1, 0, 1) + x.comes(1, 0), -12);
        Due.is("kind", x.drinker(3, 0), 5);
        Due.is("figure", x.drinker(3, 1), 7);
        Due.is("waker", x.drinker(3, 2), 3);
        Due.is("nobody", x.drinker(6, 2), 9);
        Due.is("it stays on the shelf", x.cost(0), 4);
    }

    private static void promise6Wakes() {
        BeansOnTheOtherSide x = Rows.after("k002;");
        Due.is("wakes(0, 9)", x.wakes(0, 9), 2);
        Due.is("wakes(0, 4)", x.wakes(0, 4), 9);
        Due.is("now", x.drinker(0, 2), 4);
        Due.is("wakes(0, 5)", x.wakes(0, 5), -1);
        Due.is("wakes(0, -1)", x.wakes(0, -1), -1);
        Due.is("wakes(0, 10)", x.wakes(0, 10), -1);
        Due.is("wakes(1, 0)", x.wakes(1, 0), -1);
        Due.is("wakes(-1, 0)", x.wakes(-1, 0), -1);
        Due.is("as it was", x.drinker(0, 2), 4);
    }

    private static void promise7Tires() {
        BeansOnTheOtherSide x = new BeansOnTheOtherSide();
        Due.is("tires(3, 99)", x.tires(3, 99), 0);
        Due.is("tires(3, 0)", x.tires(3, 0), 99);
        Due.is("tires(3, 60)", x.tires(3, 60), 0);
        Due.is("no sleep from it", x.waker(3, 1), 1);
        Due.is("tires(3, 100)", x.tires(3, 100), -1);
        Due.is("tires(3, -1)", x.tires(3, -1), -1);
        Due.is("tires(5, 1)", x.tires(5, 1), -1);
        Due.is("tires(-1, 1)", x.tires(-1, 1), -1);
        Due.is("as it was", x.waker(3, 0), 60);
    }

    private static void promise8Sleeps() {
        BeansOnTheOtherSide x = new BeansOnTheOtherSide();
        Due.is("sleeps(2)", x.sleeps(2), 0);
        Due.is("bits", x.count(4), 4);
        Due.is("sleeps(2) again", x.sleeps(2), 1);
        Due.is("no bits", x.count(4), 0);
        Due.is("sleeps(-1)", x.sleeps(-1), -1);
        Due.is("sleeps(5)", x.sleeps(5), -1);
        Due.is("still no bits", x.count(4), 0);
    }

    private static void promise9Bags() {
        BeansOnTheOtherSide x = new BeansOnTheOtherSide();
        Due.is("bags(999)", x.bags(999), 60);
        Due.is("bags(0)", x.bags(0), 999);
        Due.is("bags(-1)", x.bags(-1), -1);
        Due.is("bags(1000)", x.bags(1000), -1);
        Due.is("as it was", x.count(2), 0);
    }

    private static void promise10Days() {
        BeansOnTheOtherSide x = Rows.after("k009;");
        Due.is("days(1)", x.days(1), 2);
        Due.is("days(60), 29 of them with bags", x.days(60), 60);
        Due.is("day", x.count(1), 61);
        Due.is("days(0)", x.days(0), -1);
        Due.is("days(61)", x.days(61), -1);
        Due.is("days(-5)", x.days(-5), -1);
        for (int i = 0; i < 15; i++) {
            x.days(60);
        }
        Due.is("day 961", x.count(1), 961);
        Due.is("days(39) goes beyond", x.days(39), -3);
        Due.is("day 961 still", x.count(1), 961);
        Due.is("days(61) is -1 first", x.days(61), -1);
        Due.is("days(38)", x.days(38), 60);
        Due.is("day 999", x.count(1), 999);
        Due.is("days(1) goes beyond", x.days(1), -3);

        x = Rows.after("k001;t153;b001;");
        Due.is("one bag for two cups", x.days(1), 0);
        Due.is("56 less 2", x.waker(1, 0), 54);
        Due.is("no bags", x.count(2), 0);
        x = Rows.after("k001;t154;");
        x.days(1);
        Due.is("60 are asleep", x.waker(1, 1), 0);
        Due.is("and stay 60 tired", x.waker(1, 0), 60);
        Due.is("45 tired asleep", x.days(1), 2);
        Due.is("30 tired asleep", x.days(1), 4);
        Due.is("15 tired, awake, and 6 more, 2 less", x.days(1), 4);
        Due.is("19", x.waker(1, 0), 19);
        x = Rows.after("z1;t135;z2;t234;");
        x.days(1);
        Due.is("20 is asleep yet", x.waker(1, 1), 0);
        Due.is("20", x.waker(1, 0), 20);
        Due.is("19 is awake", x.waker(2, 1), 1);
        Due.is("17", x.waker(2, 0), 17);
        x = Rows.after("k291;k291;k291;k291;k291;k291;k291;t159;b999;");
        x.days(1);
        Due.is("99 at most", x.waker(1, 0), 99);
        x = Rows.after("k699;k009;o199;b999;d40;");
        Due.is("999 at most", x.drinker(0, 3), 999);
        Due.is("not the other", x.drinker(1, 3), 179);
        Due.is("sum", x.days(1), 1180);
        x = Rows.after("k009;k009;b003;d01;");
        Due.is("by numbers: two", x.drinker(0, 3), 2);
        Due.is("by numbers: one", x.drinker(1, 3), 1);
    }

    private static void promise10DaysOfEachKind() {
        int[] cups = {2, 3, 5, 1, 10, 3, 9, 0};
        int[] tired = {6, 6, 20, 1, 40, 0, 0, 5};
        int[] owed = {2, 3, 10, 1, 20, 3, 24, 0};
        for (int kind = 0; kind < 8; kind++) {
            String one = "k" + kind + "6";
            BeansOnTheOtherSide x = Rows.after(one + "0;t010;d01;");
            Due.is("tired by kind " + kind, x.waker(0, 0), 8 + tired[kind]);
            Due.is("bags by kind " + kind, x.count(2), 60 - cups[kind]);
            Due.is("nothing owed by kind " + kind, x.count(3), 0);
            x = Rows.after(one + "9;t010;d01;");
            Due.is("owed by kind " + kind, x.count(3), owed[kind]);
            Due.is("nobody tired by kind " + kind, x.waker(0, 0), 8);
            x = Rows.after(one + "9;b000;d01;");
            Due.is("owed without bags by kind " + kind, x.count(3), 0);
            x = Rows.after(one + "0;t010;b000;d01;");
            Due.is("tired without bags by kind " + kind, x.waker(0, 0), kind == 7 ? 13 : 8);
        }
        BeansOnTheOtherSide x = Rows.after("k510;t010;d01;");
        Due.is("a lover of figure 1 tires 5", x.waker(0, 0), 13);
        x = Rows.after("k609;b001;d01;");
        Due.is("a smuggler of figure 0, one cup", x.count(3), 2);
        x = Rows.after("k699;b001;d01;");
        Due.is("a smuggler of figure 9, one cup", x.count(3), 11);
    }

    private static void promise11OwesThen() {
        BeansOnTheOtherSide x = Rows.after("k009;k199;o003;");
        Due.is("owesThen(0, 0)", x.owesThen(0, 0), 3);
        Due.is("owesThen(0, 4)", x.owesThen(0, 4), 11);
        Due.is("owesThen(1, 3)", x.owesThen(1, 3), 8);
        Due.is("27 of the 60 cups are his", x.owesThen(0, 60), 30);
        Due.is("in mind alone", x.count(1) + x.count(3), 3);
        Due.is("owesThen(2, 1)", x.owesThen(2, 1), -1);
        Due.is("owesThen(-1, 1)", x.owesThen(-1, 1), -1);
        Due.is("owesThen(0, -1)", x.owesThen(0, -1), -1);
        Due.is("owesThen(0, 61)", x.owesThen(0, 61), -1);
        x = Rows.after("d60;d60;d60;d60;d60;d60;d60;d60;d60;d60;d60;d60;d60;d60;d60;d60;d39;");
        Rows.treaty(x, "k109;");
        Due.is("day may pass 999: 2, 3, 2", x.owesThen(0, 3), 7);
    }

    private static void promise12TiredThen() {
        BeansOnTheOtherSide x = Rows.after("k001;t250;");
        Due.is("tiredThen(1, 0)", x.tiredThen(1, 0), 0);
        Due.is("tiredThen(1, 14)", x.tiredThen(1, 14), 56);
        Due.is("tiredThen(1, 15)", x.tiredThen(1, 15), 62);
        Due.is("tiredThen(2, 24)", x.tiredThen(2, 24), 2);
        Due.is("tiredThen(2, 60)", x.tiredThen(2, 60), 0);
        Due.is("in mind alone", x.waker(2, 0), 50);
        Due.is("tiredThen(5, 0)", x.tiredThen(5, 0), -1);
        Due.is("tiredThen(-1, 0)", x.tiredThen(-1, 0), -1);
        Due.is("tiredThen(0, 61)", x.tiredThen(0, 61), -1);
        Due.is("tiredThen(0, -1)", x.tiredThen(0, -1), -1);
    }

    private static void promise13Then() {
        BeansOnTheOtherSide x = Rows.after("k001;k009;z3;t399;");
        Due.is("then(0, 0)", x.then(0, 0), 60);
        Due.is("then(0, 1)", x.then(0, 1), 8);
        Due.is("then(0, 2)", x.then(0, 2), 0);
        Due.is("then(15, 0)", x.then(15, 0), 0);
        Due.is("then(5, 1): 24 tired", x.then(5, 1), 8);
        Due.is("then(6, 1): 9 tired", x.then(6, 1), 0);
        Due.is("then(15, 1)", x.then(15, 1), 2);
        Due.is("then(15, 2)", x.then(15, 2), 30);
        Due.is("then(60, 2)", x.then(60, 2), 30);
        Due.is("then(0, 3)", x.then(0, 3), -1);
        Due.is("then(0, -1)", x.then(0, -1), -1);
        Due.is("then(61, 0)", x.then(61, 0), -1);
        Due.is("then(-1, 0)", x.then(-1, 0), -1);
        Due.is("in mind alone", x.count(1), 0);
    }

    private static void promise14FirstAsleep() {
        BeansOnTheOtherSide x = Rows.after("k001;z0;t262;k703;k709;");
        Due.is("asleep now", x.firstAsleep(0), 0);
        Due.is("14 times 4, and 6", x.firstAsleep(1), 15);
        Due.is("62 already", x.firstAsleep(2), 1);
        Due.is("a saint: 19 times 3, and 5", x.firstAsleep(3), 20);
        Due.is("never", x.firstAsleep(4), -4);
        Due.is("firstAsleep(5)", x.firstAsleep(5), -1);
        Due.is("firstAsleep(-1)", x.firstAsleep(-1), -1);
        x = Rows.after("k301;k510;t058;");
        Due.is("a nurse tires 1 a day: never", x.firstAsleep(1), -4);
        Due.is("58, and 5 by a lover of figure 1", x.firstAsleep(0), 1);
        x = Rows.after("k001;k301;b999;");
        Due.is("5 a day: 11 times 5, and 7", x.firstAsleep(1), 12);
        x = Rows.after("k301;k301;k301;b999;");
        Due.is("1 a day: 58, and 3, on day 59", x.firstAsleep(1), 58);
        x = Rows.after("k301;k301;k301;b174;");
        Due.is("58 days of bags", x.firstAsleep(1), 58);
        x = Rows.after("k301;k301;k301;b173;");
        Due.is("a bag too few", x.firstAsleep(1), -4);
        // Two nurses, and a lover who tires 2 on days 1 and 5 of six: 56 and 4 on day 61.
        x = Rows.after("d01;k300;k300;k540;t018;b999;");
        Due.is("on the 60th day", x.firstAsleep(0), 60);
        x.tires(0, 17);
        Due.is("later than the 60th", x.firstAsleep(0), -4);
    }

    private static void promise15Out() {
        BeansOnTheOtherSide x = new BeansOnTheOtherSide();
        Due.is("nobody drinks", x.out(), -4);
        x.bags(0);
        Due.is("none now", x.out(), 0);
        x = Rows.after("k309;");
        Due.is("60 days", x.out(), 60);
        x.bags(61);
        Due.is("61 days", x.out(), -4);
        x.bags(59);
        Due.is("59 days", x.out(), 59);
        Rows.treaty(x, "k009;");
        Due.is("3 a day", x.out(), 20);
    }

    private static void promise16BestWaker() {
        BeansOnTheOtherSide x = Rows.after("k009;z0;t059;t199;t255;z4;t499;");
        Due.is("0 is 59 less 15, 44: asleep; 1 is 99, awake for one day", x.bestWaker(0, 1, 0), 1);
        Due.is("how much", x.bestWaker(0, 1, 1), 0);
        Due.is("3 is the first who lasts", x.bestWaker(0, 5, 0), 3);
        Due.is("in mind alone", x.drinker(0, 2), 9);
        Due.is("0 days: the least", x.bestWaker(0, 0, 0), 0);
        Due.is("0 days: how much", x.bestWaker(0, 0, 1), 0);
        // With a saint a waker is 9 a day more tired: 54, and 65 on day 7.
        x = Rows.after("k779;k000;k001;k002;k003;k004;b999;");
        Due.is("7 days: all alike", x.bestWaker(0, 7, 0), 0);
        Due.is("8 days: nobody is better", x.bestWaker(0, 8, 0), 9);
        Due.is("how much then", x.bestWaker(0, 8, 1), 0);
        Due.is("bestWaker(6, 1, 0)", x.bestWaker(6, 1, 0), -1);
        Due.is("bestWaker(-1, 1, 0)", x.bestWaker(-1, 1, 0), -1);
        Due.is("bestWaker(0, 61, 0)", x.bestWaker(0, 61, 0), -1);
        Due.is("bestWaker(0, -1, 0)", x.bestWaker(0, -1, 0), -1);
        Due.is("bestWaker(0, 60, 2)", x.bestWaker(0, 60, 2), -1);
        Due.is("bestWaker(0, 60, -1)", x.bestWaker(0, 60, -1), -1);
    }

    private static void promise17Match() {
        BeansOnTheOtherSide x = Rows.after("k009;k309;k469;k009;z1;z3;z4;");
        Due.is("10 and 2 by two awake", x.match(-1), 12);
        Due.is("match(0)", x.match(0), 0);
        Due.is("match(1)", x.match(1), -4);
        Due.is("match(2)", x.match(2), 2);
        Due.is("match(3)", x.match(3), -4);
        Due.is("match(4)", x.match(4), -1);
        Due.is("match(-2)", x.match(-2), -1);
        Rows.treaty(x, "z0;z2;");
        Due.is("all asleep", x.match(-1), 0);
        Due.is("nobody for 2", x.match(2), -4);
        x = Rows.after("k709;k009;");
        Due.is("a saint takes the least", x.match(0), 0);
        Due.is("the other the next", x.match(1), 1);
        x = Rows.after("k709;k009;z0;z1;z2;z4;");
        Due.is("a saint gives way", x.match(0), -4);
        Due.is("to one of cups", x.match(1), 3);
        x = Rows.after("k109;k009;z0;z1;z2;z4;t099;t199;t299;t499;");
        Due.is("day 1 is odd: 3", x.match(-1), 3);
        x.days(1);
        Due.is("day 2: the first of equals", x.match(0), 3);
        Due.is("day 2: the second", x.match(1), -4);
        x.bags(0);
        Due.is("bags do not matter", x.match(-1), 2);
        Due.is("no drinker", new BeansOnTheOtherSide().match(0), -1);
        x = Rows.after("k009;k009;k009;k009;k009;k309;k009;");
        for (int k = 0; k < 5; k++) {
            Due.is("the first five of equals: " + k, x.match(k), k);
        }
        Due.is("the nurse has none", x.match(5), -4);
        Due.is("the last has none", x.match(6), -4);
        Due.is("5 by 2", x.match(-1), 10);
        x = Rows.after("k009;");
        x.image();
        Rows.treaty(x, "k009;");
        Due.is("two", x.match(-1), 4);
        x.restore();
        Due.is("one again", x.match(-1), 2);
    }

    private static void promise18Milk() {
        BeansOnTheOtherSide x = Rows.after("k009;k269;k009;");
        Due.is("the banker owes 10 a day, 4 by milk", x.milk(1), 1);
        Due.is("not less behind 0 days", x.milk(0), -4);
        Due.is("milk is for the thought alone", x.then(1, 2), 14);
        x = Rows.after("k009;k009;");
        Due.is("of several the least", x.milk(3), 0);
        x = Rows.after("k000;k001;");
        Due.is("nothing owed, nothing less", x.milk(5), -4);
        x = Rows.after("k309;");
        Due.is("half of 1, cut, is 0", x.milk(1), 0);
        // Of 5 cups 2 are left, 4 owed for 10; of a smuggler's 3 one is left, 2 owed for 6.
        x = Rows.after("k269;k609;o099;");
        Due.is("6 less by the banker, 4 by the smuggler", x.milk(1), 0);
        x = Rows.after("k109;");
        x.bags(1);
        Due.is("half of what he drinks is 1: as much as there is", x.milk(1), -4);
        Due.is("milk(-1)", x.milk(-1), -1);
        Due.is("milk(31)", x.milk(31), -1);
        Due.is("milk(30)", x.milk(30), -4);
        Due.is("nobody", new BeansOnTheOtherSide().milk(3), -4);
    }

    private static void promise19Fewest() {
        BeansOnTheOtherSide x = Rows.after("k001;k003;k009;");
        Due.is("1 and 3", x.fewest(3), 10);
        Due.is("0 days", x.fewest(0), 0);
        x.bags(0);
        Due.is("no bags", x.fewest(30), 0);
        x = Rows.after("k004;z4;t420;");
        Due.is("asleep now, awake on the day", x.fewest(1), 16);
        x = Rows.after("k004;z4;t499;");
        Due.is("asleep for 3 days", x.fewest(3), 0);
        x = Rows.after("k000;k001;k002;k003;k004;");
        Due.is("all", x.fewest(1), 31);
        Due.is("fewest(-1)", x.fewest(-1), -1);
        Due.is("fewest(31)", x.fewest(31), -1);
        Due.is("in mind alone", x.count(4), 0);
        Due.is("not refused", x.fewest(30), 31);
        Due.is("sleep for ever is for the thought alone", x.then(1, 1), 0);
        // The first leaves no bag to the other.
        x = Rows.after("k004;z3;t399;z4;t499;");
        Due.is("who is asleep is so, kept or not", x.fewest(9), 16);
        x = Rows.after("k500;k001;b002;");
        Due.is("the first drinks all", x.fewest(2), 1);
    }

    private static void promise20Store() {
        BeansOnTheOtherSide x = Rows.after("k109;k299;");
        Due.is("none behind 0 days", x.store(0), 1);
        Due.is("3 and 6 on day 1", x.store(1), 10);
        Due.is("2 and 6 on day 2", x.store(2), 18);
        x.bags(0);
        Due.is("BAGS as they are do not matter", x.store(2), 18);
        Due.is("60 days: 150 and 360", x.store(60), 511);
        Due.is("store(61)", x.store(61), -1);
        Due.is("store(-1)", x.store(-1), -1);
        x = Rows.after("k469;k289;k309;");
        Due.is("58 days of 17 is 986", x.store(58), 987);
        Due.is("59 days of 17 is 1003", x.store(59), -4);
        x = Rows.after("k469;k469;k009;k009;k009;k009;k009;");
        Due.is("33 days of 30 is 990", x.store(33), 991);
        Due.is("34 days of 30", x.store(34), -4);
        x = Rows.after("k469;k469;k469;k469;k469;k469;k469;");
        Due.is("70 a day: 14 days are 980", x.store(14), 981);
        x = Rows.after("k009;k009;k009;k609;k309;k309;k309;");
        Due.is("12 a day and 1", x.store(10), 121);
        x = Rows.after("k609;k609;k609;k609;k609;k609;k009;");
        // 20 a day.
        Due.is("20 a day: 49 days are 980", x.store(49), 981);
        Due.is("50 days are 1000", x.store(50), -4);
        x = Rows.after("k649;k649;k609;k309;");
        // 7, 7, 3 and 1 are 18 a day: 55 days are 990.
        Due.is("990 and 1", x.store(55), 991);
        Due.is("1008", x.store(56), -4);
        x = Rows.after("k109;k289;k289;k309;k009;");
        Due.is("a clerk's 143, and 57 by 15: 999 is in range", x.store(57), 999);
        x.days(1);
        Due.is("142 from the second day on", x.store(57), 998);
        x = Rows.after("k289;k289;k289;k289;k009;k309;");
        Due.is("37 by 27 is 999: 1000 is not", x.store(37), -4);
        Due.is("36 by 27", x.store(36), 973);
    }

    private static void promise21Heaviest() {
        BeansOnTheOtherSide x = Rows.after("k003;k003;k001;k001;k009;o105;o305;z1;");
        Due.is("1 and 3 have two: 1", x.heaviest(0), 1);
        Due.is("two", x.heaviest(1), 2);
        Due.is("1 and 3 owe 5: 1", x.heaviest(2), 1);
        Due.is("2 and 3 by 1, 4 nobody", x.heaviest(3), 28);
        Due.is("heaviest(4)", x.heaviest(4), -1);
        Due.is("heaviest(-1)", x.heaviest(-1), -1);
        x = Rows.after("k009;k009;");
        Due.is("none has any: 0", x.heaviest(0), 0);
        Due.is("0 of them", x.heaviest(1), 0);
        Due.is("nobody owes: the first", x.heaviest(2), 0);
        Due.is("both alone", x.heaviest(3), 3);
        x = new BeansOnTheOtherSide();
        Due.is("no drinker", x.heaviest(2), -4);
    }

    private static void promise22Rest() {
        BeansOnTheOtherSide x = Rows.after("k000;k001;t020;t140;");
        // 0 asleep: 5 tired, awake at once. 1 asleep: 25, one day of 2.
        Due.is("0 may rest", x.rest(1, 0), 0);
        Due.is("nothing owed", x.rest(1, 1), 0);
        x = Rows.after("k000;k001;k002;k003;k004;k004;t040;t140;t240;t340;t440;");
        Due.is("each costs 2, 4 costs 4", x.rest(1, 0), 0);
        Due.is("2", x.rest(1, 1), 2);
        Rows.treaty(x, "w19;w29;w39;");
        Due.is("1 has none", x.rest(1, 0), 1);
        Due.is("the others owe 6", x.rest(1, 1), 6);
        Rows.treaty(x, "z3;");
        Due.is("who is asleep makes no odds", x.rest(1, 0), 1);
        Due.is("in mind alone", x.count(4), 8);
        Due.is("rest(0, 0)", x.rest(0, 0), -1);
        Due.is("rest(31, 0)", x.rest(31, 0), -1);
        Due.is("rest(1, 2)", x.rest(1, 2), -1);
        Due.is("rest(1, -1)", x.rest(1, -1), -1);
        Due.is("rest(30, 1) is not refused", x.rest(30, 1) > 0 ? 1 : 0, 1);
    }

    private static void promise23WhatIs() {
        BeansOnTheOtherSide x = Rows.after("k249;o003;");
        Rows.tell(x, 0, Rows.BYTES, 3, 11, 19);
        Due.is("a banker of figure 4: 8 a day", x.whatIs(0, 0, 0), 4);
        Due.is("figures 4 and 5", x.whatIs(0, 0, 1), 48);
        Rows.tell(x, 0, Rows.INTS, 3, 5, 7);
        Due.is("2 a day: a drinker", x.whatIs(0, 0, 0), 1);
        Due.is("no figure", x.whatIs(0, 0, 1), 0);
        Rows.tell(x, 0, Rows.SHORTS, 3, 6, 8);
        Due.is("3 and 2: a clerk, a lover", x.whatIs(0, 0, 0), 34);
        Rows.tell(x, 0, Rows.SHORTS, 3, -32768, 8, 8);
        Due.is("3, 2 and 0: a lover", x.whatIs(0, 0, 0), 32);
        Rows.tell(x, 0, Rows.BYTES, 3, -128, -128);
        Due.is("skipped: all", x.whatIs(0, 0, 0), 255);
        Due.is("skipped: all figures", x.whatIs(0, 0, 1), 1023);
        Rows.tell(x, 0, Rows.SHORTS, 3, -128);
        Due.is("-128 is no short to skip", x.whatIs(0, 0, 0), 0);
        Rows.tell(x, 0, Rows.INTS, Integer.MIN_VALUE, 21);
        Due.is("a smuggler: 7 cups, 14 and 4 more, and 3", x.whatIs(0, 0, 0), 64);
        Rows.tell(x, 0, Rows.BYTES, 4);
        Due.is("behind 0 days he owes 3", x.whatIs(0, 0, 0), 0);
        Rows.tell(x, 0, Rows.BYTES);
        Due.is("an empty row tells nothing", x.whatIs(0, 0, 0), 255);
        Due.is("in mind alone", x.drinker(0, 0), 2);
        Due.is("whatIs(8, 0, 0)", x.whatIs(8, 0, 0), -1);
        Due.is("whatIs(-1, 0, 0)", x.whatIs(-1, 0, 0), -1);
        Due.is("whatIs(0, 1, 0)", x.whatIs(0, 1, 0), -1);
        Due.is("whatIs(0, -1, 0)", x.whatIs(0, -1, 0), -1);
        Due.is("whatIs(0, 0, 2)", x.whatIs(0, 0, 2), -1);
        Due.is("whatIs(0, 0, -1)", x.whatIs(0, 0, -1), -1);
        Due.is("nothing", x.whatIs(5, 0, 0), -11);
        Due.is("-1 ahead of nothing", x.whatIs(5, 1, 0), -1);
        x.keep(5, 1, 0, 0);
        Due.is("a kind", x.whatIs(5, 0, 0), -12);
    }

    private static void promise24Shed() {
        BeansOnTheOtherSide x = Rows.after("k109;");
        Rows.tell(x, 0, Rows.SHORTS, 97, 95);
        Due.is("100 less 3 less 2", x.shed(0, 0), 1);
        Due.is("the least", x.shed(0, 1), 100);
        Due.is("the greatest", x.shed(0, 2), 100);
        Rows.tell(x, 0, Rows.BYTES, 0);
        Due.is("0, 1, 2, 3", x.shed(0, 0), 4);
        Due.is("0", x.shed(0, 1), 0);
        Due.is("3", x.shed(0, 2), 3);
        Rows.tell(x, 0, Rows.BYTES, -128, 0);
        Due.is("0 .. 5", x.shed(0, 0), 6);
        Rows.tell(x, 0, Rows.BYTES, 1, 1);
        Due.is("none", x.shed(0, 0), 0);
        Due.is("no least", x.shed(0, 1), -4);
        Due.is("no greatest", x.shed(0, 2), -4);
        Rows.tell(x, 0, Rows.INTS, 197);
        Due.is("200", x.shed(0, 2), 200);
        Rows.tell(x, 0, Rows.INTS, 198);
        Due.is("201 is too many", x.shed(0, 0), 0);
        Rows.tell(x, 0, Rows.INTS);
        Due.is("all", x.shed(0, 0), 201);
        Due.is("shed(0, 3)", x.shed(0, 3), -1);
        Due.is("shed(0, -1)", x.shed(0, -1), -1);
        Due.is("shed(8, 0)", x.shed(8, 0), -1);
        Due.is("nothing", x.shed(4, 0), -11);
        x.keep(4, 1, 0, 0);
        Due.is("a kind", x.shed(4, 0), -12);
        Due.is("in mind alone", x.count(2), 60);
    }

    private static void promise25Two() {
        BeansOnTheOtherSide x = Rows.after("k009;k009;");
        Due.is("2 cups less 1 a day: both drink", x.two(0, 1, 3), 11);
        x = Rows.after("k209;k209;");
        // 2 cups, 4 more owed by 2: 0 either way, so 0 and 0 is the first.
        Due.is("no gain either way", x.two(0, 1, 3), 0);
        x = Rows.after("k209;k009;");
        Due.is("the other alone", x.two(0, 1, 1), 1);
        Due.is("the one alone", x.two(1, 0, 1), 10);
        x = Rows.after("k699;k699;");
        // 11 cups, 31 owed by 2 is 15: better nothing.
        Due.is("both nothing", x.two(0, 1, 1), 0);
        x = Rows.after("k690;k690;");
        Due.is("woken for: both", x.two(0, 1, 1), 11);
        x = Rows.after("k009;k009;b000;");
        Due.is("no bags", x.two(0, 1, 30), 0);
        Due.is("two(0, 0, 1)", x.two(0, 0, 1), -1);
        Due.is("two(0, 2, 1)", x.two(0, 2, 1), -1);
        Due.is("two(2, 0, 1)", x.two(2, 0, 1), -1);
        Due.is("two(-1, 0, 1)", x.two(-1, 0, 1), -1);
        Due.is("two(0, 1, 0)", x.two(0, 1, 0), -1);
        Due.is("two(0, 1, 31)", x.two(0, 1, 31), -1);
        // Waker 1 sleeps on days 2 to 6. Alone the one has 69 less 62, the other 69 less 77;
        // of both the one has 36 less 37, the other 33 less 31: no pair holds.
        x = Rows.after("k671;k691;b069;t199;");
        Due.is("each pair is left", x.two(0, 1, 9), -4);
        x = Rows.after("k309;k009;");
        Due.is("1 cup, 1 owed by 2, cut, is 0", x.two(0, 1, 1), 11);
    }

    private static void promise26Falls() {
        BeansOnTheOtherSide x = Rows.after("k000;t040;");
        Due.is("a fall on one day: 2 owed", x.falls(1, 3, 2, 0), 1);
        Due.is("in 3", x.falls(1, 3, 2, 1), 3);
        Due.is("0 or more: 1", x.falls(1, 3, 0, 0), 1);
        Due.is("of 1", x.falls(1, 3, 0, 1), 1);
        Due.is("3 or more: 0", x.falls(1, 3, 3, 0), 0);
        Due.is("of 1 too", x.falls(1, 3, 3, 1), 1);
        // On two days: a fall on the first or the second, 1 less (2/3) (2/3).
        Due.is("two days", x.falls(2, 3, 2, 0), 5);
        Due.is("in 9", x.falls(2, 3, 2, 1), 9);
        // A fall on both: 40, 25 asleep, 10 awake: 2 on the first alone. Never 4.
        Due.is("never 4 in two days", x.falls(2, 3, 4, 0), 0);
        Rows.treaty(x, "t099;");
        // A fall on the first leaves 84, 69: 4. No fall: 99, asleep at the end, 84: 2. Else as it.
        Due.is("4 by a fall on the first", x.falls(2, 20, 4, 0), 1);
        Due.is("in 20", x.falls(2, 20, 4, 1), 20);
        Due.is("0 days", x.falls(0, 20, 0, 0), 1);
        Due.is("0 days, 1 owed", x.falls(0, 20, 1, 0), 0);
        x = Rows.after("k000;t040;b999;");
        Due.is("half", x.falls(1, 2, 1, 1), 2);
        Due.is("some fall of 7", x.falls(3, 20, 1, 1), 8000);
        Due.is("some fall of 3", x.falls(3, 20, 1, 0), 8000 - 19 * 19 * 19);
        Due.is("falls(8, 2, 0, 0)", x.falls(8, 2, 0, 0), REFUSED);
        Due.is("falls(-1, 2, 0, 0)", x.falls(-1, 2, 0, 0), REFUSED);
        Due.is("falls(7, 1, 0, 0)", x.falls(7, 1, 0, 0), REFUSED);
        Due.is("falls(7, 21, 0, 0)", x.falls(7, 21, 0, 0), REFUSED);
        Due.is("falls(7, 20, -1, 0)", x.falls(7, 20, -1, 0), REFUSED);
        Due.is("falls(7, 20, 1000, 0)", x.falls(7, 20, 1000, 0), REFUSED);
        Due.is("falls(7, 20, 999, 2)", x.falls(7, 20, 999, 2), REFUSED);
        Due.is("falls(7, 20, 999, -1)", x.falls(7, 20, 999, -1), REFUSED);
        Due.is("falls(7, 20, 999, 1)", x.falls(7, 20, 999, 1), 1);
        Due.is("in mind alone", x.count(4), 0);
    }

    private static void promise27Mean() {
        BeansOnTheOtherSide x = Rows.after("t001;t102;t203;t304;t402;");
        Due.is("12", x.mean(0), 12);
        Due.is("by 5", x.mean(1), 5);
        x.tires(4, 0);
        Due.is("10 by 5 is 2", x.mean(0), 2);
        Due.is("by 1", x.mean(1), 1);
        Due.is("mean(2)", x.mean(2), REFUSED);
        Due.is("mean(-1)", x.mean(-1), REFUSED);
        x = new BeansOnTheOtherSide();
        Due.is("nobody tired: 0", x.mean(0), 0);
        Due.is("by 1 too", x.mean(1), 1);
    }

    private static void promise28Forged() {
        BeansOnTheOtherSide x = Rows.after("k009;k009;o112;");
        Rows.tell(x, 0, Rows.BYTES, 0, 12);
        Due.is("so", x.forged(0), -4);
        Rows.tell(x, 0, Rows.INTS, 0, 13);
        Due.is("1 is forged", x.forged(0), 1);
        Rows.tell(x, 0, Rows.SHORTS, 0, 12, 0);
        Due.is("no such drinker", x.forged(0), 2);
        Rows.tell(x, 0, Rows.SHORTS, 0);
        Due.is("fewer may be told", x.forged(0), -4);
        Rows.tell(x, 0, Rows.BYTES, -128, 12);
        Due.is("nothing is skipped here", x.forged(0), 0);
        Rows.tell(x, 0, Rows.BYTES);
        Due.is("nothing told", x.forged(0), -4);
        Due.is("forged(-1)", x.forged(-1), -1);
        Due.is("forged(8)", x.forged(8), -1);
        Due.is("nothing", x.forged(1), -11);
        x.keep(1, 1, 0, 0);
        Due.is("a kind", x.forged(1), -12);
    }

    private static void promise29Judge() {
        BeansOnTheOtherSide x = Rows.after("k109;");
        Rows.tell(x, 0, Rows.BYTES, 60, 57, 55, 52);
        Due.is("so", x.judge(0), -4);
        Rows.tell(x, 0, Rows.BYTES, 60, 57, 54, 52);
        Due.is("2 is not", x.judge(0), 2);
        Rows.tell(x, 0, Rows.SHORTS, -32768, -32768, 55, 51);
        Due.is("skipped, 3 is not", x.judge(0), 3);
        Rows.tell(x, 0, Rows.INTS, Integer.MIN_VALUE, -32768);
        Due.is("-32768 is no int to skip", x.judge(0), 1);
        Rows.tell(x, 0, Rows.INTS);
        Due.is("nothing told", x.judge(0), -4);
        x.row(0, Rows.SHORTS, 100);
        for (int i = 0; i < 100; i++) {
            x.put(0, i, i < 99 ? -32768 : 0);
        }
        Due.is("99 days on there are none", x.judge(0), -4);
        x.put(0, 99, 1);
        Due.is("and not one", x.judge(0), 99);
        Due.is("judge(-1)", x.judge(-1), -1);
        Due.is("judge(8)", x.judge(8), -1);
        Due.is("nothing", x.judge(1), -11);
        x.keep(1, 1, 0, 0);
        Due.is("a kind", x.judge(1), -12);
        Due.is("in mind alone", x.count(1), 0);
    }

    private static void promise30Years() {
        BeansOnTheOtherSide x = Rows.after("k009;z0;z1;z2;z3;z4;t099;t199;t299;t399;t499;");
        // 99 asleep: 84, 69, 54, 39, 24, 9: five days of 2, whoever is drawn; all awake then.
        Due.is("one year", x.years(1, 7, 0), 10);
        Due.is("three years together", x.years(3, 7, 0), 30);
        Due.is("nobody is asleep then", x.years(3, 7, 1), 0);
        // Seed 1: 1103527590, 16838 by 65536, 3 below 5: 60 tired on day 1, 45, 30, 15 and awake.
        x = Rows.after("k009;b999;t354;");
        Due.is("seed 1 draws 3", x.years(1, 1, 0), 4);
        // Seed 0: 12345, 0 by 65536: 0 is drawn, who is 12 times 4 tired.
        Due.is("seed 0 draws 0", x.years(1, 0, 0), 0);
        // Seed 1 draws 3, 3, 3, 0: the seed goes on from year to year.
        x = Rows.after("k009;b999;t354;");
        Due.is("seed 1 draws 3 three times in four", x.years(4, 1, 0), 12);
        x = Rows.after("k290;b999;");
        // 24 a day: 22, 44, 68 asleep, 53, 38, 23, 8 and awake: 30, 52, 76 asleep, 61, 46, 31.
        Due.is("asleep ones", x.years(1, 0, 1), 1);
        Due.is("together", x.years(20, 0, 1), 20);
        Due.is("years(0, 0, 0)", x.years(0, 0, 0), -1);
        Due.is("years(21, 0, 0)", x.years(21, 0, 0), -1);
        Due.is("years(1, 0, 2)", x.years(1, 0, 2), -1);
        Due.is("years(1, 0, -1)", x.years(1, 0, -1), -1);
        Due.is("in mind alone", x.count(1), 0);
        Due.is("no drinkers", new BeansOnTheOtherSide().years(20, 3, 0), 0);
    }

    private static void promise31And32Image() {
        BeansOnTheOtherSide x = Rows.after("k243;o007;t011;z2;t299;b033;d03;");
        Due.is("no image", x.restore(), -3);
        int[] before = new int[6];
        for (int what = 0; what < 6; what++) {
            before[what] = x.count(what);
        }
        Due.is("image is day 3", x.image(), 3);
        Rows.treaty(x, "k000;w00;o099;t055;z1;b999;d60;");
        x.keep(1, 1, 5, 5);
        Due.is("restored is day 3", x.restore(), 3);
        for (int what = 0; what < 6; what++) {
            Due.is("as before: count(" + what + ")", x.count(what), before[what]);
        }
        Due.is("waker", x.drinker(0, 2), 3);
        Due.is("owes", x.drinker(0, 3), 7);
        Due.is("kind", x.drinker(0, 0), 2);
        Due.is("figure", x.drinker(0, 1), 4);
        Due.is("shelves stay", x.cost(1), 4);
        x.days(2);
        Due.is("restored once more", x.restore(), 3);
        x.days(1);
        Due.is("another image", x.image(), 4);
        x.bags(5);
        x.days(10);
        Due.is("restored to the later one", x.restore(), 4);
        x = new BeansOnTheOtherSide();
        Due.is("an image of nothing", x.image(), 0);
        x.keep(0, 1, 0, 0);
        x.comes(0, 0);
        Due.is("restored", x.restore(), 0);
        Due.is("no drinkers", x.count(0), 0);
        Due.is("the next is 0 again, and owes nothing", x.comes(0, 0) + x.drinker(0, 3), 0);
    }

    private static void promise33Count() {
        BeansOnTheOtherSide x = Rows.after("k009;k009;o012;o130;t010;t420;z1;z3;b077;");
        int[] counts = {2, 0, 77, 42, 10, 30};
        for (int what = 0; what < 6; what++) {
            Due.is("count(" + what + ")", x.count(what), counts[what]);
        }
        x.days(1);
        Due.is("day", x.count(1), 1);
        Due.is("count(6)", x.count(6), -1);
        Due.is("count(-1)", x.count(-1), -1);
    }

    private static void promise34Keep() {
        BeansOnTheOtherSide x = new BeansOnTheOtherSide();
        Due.is("keep(0, 1, 7, 9)", x.keep(0, 1, 7, 9), 0);
        Due.is("a saint", x.cost(0), 1);
        Due.is("keep(7, 1, 0, 0)", x.keep(7, 1, 0, 0), 0);
        Due.is("keep(0, 1, 8, 0)", x.keep(0, 1, 8, 0), -1);
        Due.is("keep(0, 1, -1, 0)", x.keep(0, 1, -1, 0), -1);
        Due.is("keep(0, 1, 0, 10)", x.keep(0, 1, 0, 10), -1);
        Due.is("keep(0, 1, 0, -1)", x.keep(0, 1, 0, -1), -1);
        Due.is("keep(0, 2, 0, 0)", x.keep(0, 2, 0, 0), -1);
        Due.is("keep(0, -1, 0, 0)", x.keep(0, -1, 0, 0), -1);
        Due.is("keep(8, 0, 0, 0)", x.keep(8, 0, 0, 0), -1);
        Due.is("keep(-1, 1, 0, 0)", x.keep(-1, 1, 0, 0), -1);
        Due.is("a saint yet", x.cost(0), 1);
        Due.is("keep nothing", x.keep(0, 0, 99, -99), 0);
        Due.is("nothing", x.cost(0), -11);
        x.row(0, 0, 4);
        Due.is("in place of a row", x.keep(0, 1, 2, 3) + x.cost(0), 6);
    }

    private static void promise35Row() {
        BeansOnTheOtherSide x = new BeansOnTheOtherSide();
        Due.is("row(0, 2, 100)", x.row(0, 2, 100), 0);
        Due.is("0 at first", x.element(0, 99), 0);
        x.put(0, 99, 5);
        Due.is("row(0, 2, 101)", x.row(0, 2, 101), -1);
        Due.is("row(0, 3, 1)", x.row(0, 3, 1), -1);
        Due.is("row(0, -1, 1)", x.row(0, -1, 1), -1);
        Due.is("row(8, 0, 1)", x.row(8, 0, 1), -1);
        Due.is("row(-1, 0, 1)", x.row(-1, 0, 1), -1);
        Due.is("row(0, 0, -1)", x.row(0, 0, -1), -14);
        Due.is("row(8, 0, -1)", x.row(8, 0, -1), -1);
        Due.is("row(0, 3, -1)", x.row(0, 3, -1), -1);
        Due.is("as it was", x.element(0, 99), 5);
        Due.is("made anew", x.row(0, 1, 100), 0);
        Due.is("0 again", x.element(0, 99), 0);
        Due.is("an empty one", x.row(1, 0, 0), 0);
        Due.is("is a row", x.cost(1), -12);
    }

    private static void promise36Put() {
        BeansOnTheOtherSide x = new BeansOnTheOtherSide();
        Rows.tell(x, 0, Rows.BYTES, 127, 128, 256, -129);
        Rows.tell(x, 1, Rows.SHORTS, 32767, 32768, 65536, -32769);
        Rows.tell(x, 2, Rows.INTS, Integer.MAX_VALUE, Integer.MIN_VALUE, 0, -1);
        long[][] due = {{127, -128, 0, 127}, {32767, -32768, 0, 32767},
            {Integer.MAX_VALUE, Integer.MIN_VALUE, 0, -1}};
        for (int d = 0; d < 3; d++) {
            for (int i = 0; i < 4; i++) {
                Due.is("element(" + d + ", " + i + ")", x.element(d, i), due[d][i]);
            }
        }
        Due.is("put(0, 4, 1)", x.put(0, 4, 1), -13);
        Due.is("put(0, -1, 1)", x.put(0, -1, 1), -13);
        Due.is("put(8, 0, 1)", x.put(8, 0, 1), -1);
        Due.is("put(-1, 0, 1)", x.put(-1, 0, 1), -1);
        Due.is("nothing", x.put(3, 0, 1), -11);
        x.keep(3, 1, 0, 0);
        Due.is("a kind", x.put(3, 0, 1), -12);
    }

    /** 1 IllegalArgumentException, 2 IllegalStateException, 0 nothing. */
    private static int thrownBy(BeansOnTheOtherSide x, int d, int i) {
        try {
            x.element(d, i);
            return 0;
        } catch (IllegalArgumentException e) {
            return 1;
        } catch (IllegalStateException e) {
            return 2;
        }
    }

    private static void promise37Element() {
        BeansOnTheOtherSide x = new BeansOnTheOtherSide();
        Rows.tell(x, 0, Rows.INTS, 4, -7);
        Due.is("element(0, 0)", x.element(0, 0), 4);
        Due.is("element(0, 1)", x.element(0, 1), -7);
        Due.is("element(0, 2)", thrownBy(x, 0, 2), 2);
        Due.is("element(0, -1)", thrownBy(x, 0, -1), 2);
        Due.is("element(8, 0)", thrownBy(x, 8, 0), 1);
        Due.is("element(-1, 0)", thrownBy(x, -1, 0), 1);
        Due.is("element(-1, -1)", thrownBy(x, -1, -1), 1);
        Due.is("nothing", thrownBy(x, 1, 0), 2);
        x.keep(1, 1, 0, 0);
        Due.is("a kind", thrownBy(x, 1, 0), 2);
    }

    private static void promise38Copy() {
        BeansOnTheOtherSide x = new BeansOnTheOtherSide();
        Rows.tell(x, 0, Rows.BYTES, 1, 2, 3, 4, 5);
        Rows.tell(x, 1, Rows.BYTES, 9, 9, 9);
        Due.is("copy(0, 1, 1, 0, 2)", x.copy(0, 1, 1, 0, 2), 2);
        int[] due = {2, 3, 9};
        for (int i = 0; i < 3; i++) {
            Due.is("element(1, " + i + ")", x.element(1, i), due[i]);
        }
        Due.is("onto itself", x.copy(0, 0, 0, 1, 4), 4);
        int[] own = {1, 1, 2, 3, 4};
        for (int i = 0; i < 5; i++) {
            Due.is("element(0, " + i + ")", x.element(0, i), own[i]);
        }
        x.row(5, 0, 5);
        Due.is("all of it", x.copy(0, 0, 5, 0, 5), 5);
        Due.is("the last of it", x.element(5, 4), 4);
        Due.is("none at the end", x.copy(0, 5, 1, 3, 0), 0);
        Due.is("none beyond the end", x.copy(0, 6, 1, 3, 0), -13);
        Due.is("none beyond the other end", x.copy(0, 5, 1, 4, 0), -13);
        Due.is("n below 0", x.copy(0, 1, 1, 1, -1), -13);
        Due.is("i below 0", x.copy(0, -1, 1, 0, 1), -13);
        Due.is("j below 0", x.copy(0, 0, 1, -1, 1), -13);
        Due.is("too many here", x.copy(0, 4, 1, 0, 2), -13);
        Due.is("too many there", x.copy(0, 0, 1, 2, 2), -13);
        Due.is("far too many", x.copy(0, 1, 1, 1, Integer.MAX_VALUE), -13);
        Due.is("far off", x.copy(0, Integer.MAX_VALUE, 1, 1, 1), -13);
        Due.is("no shelf", x.copy(8, 0, 1, 0, 1), -1);
        Due.is("no shelf there", x.copy(0, 0, -1, 0, 1), -1);
        Due.is("nothing here", x.copy(2, 0, 1, 0, 1), -11);
        Due.is("nothing there", x.copy(0, 0, 2, 0, 1), -11);
        x.keep(3, 1, 0, 0);
        Due.is("a kind and nothing", x.copy(3, 0, 2, 0, 1), -11);
        Due.is("a kind here", x.copy(3, 0, 1, 0, 1), -12);
        Due.is("a kind there", x.copy(0, 0, 3, 0, 1), -12);
        x.row(4, 1, 5);
        Due.is("another sort", x.copy(0, 0, 4, 0, 1), -12);
        Due.is("another sort ahead of a place", x.copy(0, 9, 4, 0, 1), -12);
    }

    private static void promise39Cost() {
        int[][] due = {{3, 3}, {4, 4}, {3, 12}, {2, 2}, {6, 24}, {4, 4}, {1, 19}, {1, 1}};
        BeansOnTheOtherSide x = new BeansOnTheOtherSide();
        for (int kind = 0; kind < 8; kind++) {
            x.keep(0, 1, kind, 0);
            Due.is("cost of kind " + kind, x.cost(0), due[kind][0]);
            x.keep(0, 1, kind, 9);
            Due.is("cost of kind " + kind + " of figure 9", x.cost(0), due[kind][1]);
        }
        Due.is("cost(-1)", x.cost(-1), -1);
        Due.is("cost(8)", x.cost(8), -1);
        Due.is("nothing", x.cost(1), -11);
        x.row(1, 0, 1);
        Due.is("a row", x.cost(1), -12);
    }

    private static void promise40Toss() {
        int[] due = {6, 6, 106, -15, 106, 6, 213, -15};
        BeansOnTheOtherSide x = new BeansOnTheOtherSide();
        for (int kind = 0; kind < 8; kind++) {
            x.keep(0, 1, kind, 0);
            Due.is("toss of kind " + kind + " of figure 0", x.toss(0), -15);
            x.keep(0, 1, kind, 6);
            Due.is("toss of kind " + kind, x.toss(0), due[kind]);
        }
        Due.is("it stays", x.toss(0), -15);
        Due.is("toss(-1)", x.toss(-1), -1);
        Due.is("toss(8)", x.toss(8), -1);
        Due.is("nothing", x.toss(1), -11);
        x.row(1, 0, 1);
        Due.is("a row", x.toss(1), -12);
    }
}

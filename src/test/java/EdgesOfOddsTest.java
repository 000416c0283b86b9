import java.math.BigInteger;

/** TWO who drink or not, FALLS by odds, MEAN of TIRED, and YEARS by seeds. */
public final class EdgesOfOddsTest {
    private static final int[] SEEDS = {0, 1, -1, 2, 42, 12345, 65535, 65536, -65536, 1 << 30,
        -(1 << 30), 1103515245, -12345, Integer.MAX_VALUE, Integer.MIN_VALUE, Integer.MIN_VALUE + 1};

    private EdgesOfOddsTest() {
    }

    public static void main(String[] args) {
        twoFirstPairOfSeveral();
        twoBySeveralPairsThatHold();
        twoHalfOfWhatIsOwed();
        twoNone();
        twoOfThirtyDays();
        twoAtTheTop();
        twoLeavesTheOthers();
        fallsOnNoDay();
        fallsOnOneDay();
        fallsOnSevenDays();
        fallsOfAllWakers();
        fallsInLeastTerms();
        fallsOfAtLeast();
        fallsAtTheTop();
        meanAtItsEnds();
        yearsDrawBelowFive();
        yearsGoOnDrawing();
        yearsOfSeven();
        yearsAsleepTogether();
        yearsOfNobody();
        Due.close();
    }

    private static void twoFirstPairOfSeveral() {
        BeansOnTheOtherSide x = Rows.after("k709;k709;");
        Due.is("no gain in any: 0 and 0", x.two(0, 1, 1), 0);
        x = Rows.after("k009;k009;b000;");
        Due.is("no BAGS: 0 and 0", x.two(0, 1, 30), 0);
        x = Rows.after("k709;k009;");
        Due.is("0 and 1", x.two(0, 1, 1), 1);
        Due.is("1 and 0", x.two(1, 0, 1), 10);
        x = Rows.after("k009;k309;");
        Due.is("1 and 1", x.two(0, 1, 1), 11);
        Due.is("1 and 1 the other way", x.two(1, 0, 1), 11);
        x = Rows.after("k000;k000;b002;");
        // The one takes both BAGS; the other gains nothing either way.
        Due.is("1 and 0 ahead of 1 and 1", x.two(0, 1, 1), 10);
        Due.is("0 and 1 ahead of 1 and 1", x.two(1, 0, 1), 1);
    }

    /** Two SMUGGLERS of one WAKER, who is ASLEEP on DAYS 2 to 4 and AWAKE again on DAY 5. */
    private static void twoBySeveralPairsThatHold() {
        // Alone 35 less 28 or 45 less 37; together 58 BAGS are too few: 28 less 28, 30 less 31.
        BeansOnTheOtherSide x = Rows.after("k650;k670;t066;b058;");
        Due.is("0 and 1 ahead of 1 and 0", x.two(0, 1, 5), 1);
        Due.is("and so the other way", x.two(1, 0, 5), 1);
        // Alone 28 less 28, 37 less 38; together 15 less 13, 22 less 15, by DAY 3 without BAGS.
        x = Rows.after("k650;k680;t066;b037;");
        Due.is("0 and 0 ahead of 1 and 1", x.two(0, 1, 4), 0);
        Due.is("and so the other way", x.two(1, 0, 4), 0);
        x = Rows.after("k650;k650;t090;b051;");
        Due.is("0 and 1 ahead of both others", x.two(0, 1, 6), 1);
    }

    private static void twoHalfOfWhatIsOwed() {
        BeansOnTheOtherSide x = Rows.after("k309;k709;");
        Due.is("1 less 0 of 1", x.two(0, 1, 1), 10);
        Due.is("2 less 1 of 2", x.two(0, 1, 2), 10);
        x = Rows.after("k209;k709;");
        Due.is("2 less 2 of 4", x.two(0, 1, 1), 0);
        x = Rows.after("k619;k709;");
        // 3 cups, 7 OWED, the half of it, cut, 3: no gain. Twice of it is a loss.
        Due.is("3 less 3 of 7", x.two(0, 1, 1), 0);
        Due.is("6 less 7 of 14", x.two(0, 1, 2), 0);
        x = Rows.after("k609;k709;b001;");
        Due.is("1 less 1 of 2", x.two(0, 1, 1), 0);
        x = Rows.after("k619;k709;b001;");
        Due.is("1 less 1 of 3", x.two(0, 1, 1), 0);
        x = Rows.after("k609;k709;o099;");
        Due.is("3 less 3 of 6, whatever he OWED", x.two(0, 1, 1), 0);
        x = Rows.after("k009;k709;o099;");
        Due.is("2 less 1 of 2, whatever he OWED", x.two(0, 1, 1), 10);
    }

    private static void twoNone() {
        // One WAKER, ASLEEP on DAYS 2 to 6, and 69 BAGS: each pair is left by one of them.
        BeansOnTheOtherSide x = Rows.after("k671;k691;b069;t199;");
        Due.is("none", x.two(0, 1, 9), -4);
        Due.is("none the other way", x.two(1, 0, 9), -4);
        x.bags(999);
        Due.is("there is one with more BAGS", x.two(0, 1, 9) >= 0 ? 1 : 0, 1);
    }

    private static void twoOfThirtyDays() {
        BeansOnTheOtherSide x = Rows.after("k009;k309;b090;");
        Due.is("30 DAYS of 3", x.two(0, 1, 30), 11);
        Due.is("31 DAYS", x.two(0, 1, 31), -1);
        Due.is("0 DAYS", x.two(0, 1, 0), -1);
        // A LOVER DRINKS nothing on DAY 3.
        x = Rows.after("d02;k509;k309;");
        Due.is("DAY 3", x.two(0, 1, 1), 1);
        Due.is("DAYS 3 and 4", x.two(0, 1, 2), 11);
        x = Rows.onDay(999, "k109;k509;");
        Due.is("DAYS 1000 to 1002", x.two(0, 1, 3), 11);
        Due.is("DAY 999 yet", x.count(1), 999);
    }

    private static void twoAtTheTop() {
        BeansOnTheOtherSide x = Rows.after("k699;k709;o069;b999;d30;b999;");
        Due.is("who OWES 999 DRINKS for nothing", x.two(0, 1, 30), 10);
        Rows.treaty(x, "o099;");
        Due.is("who OWES 99 does not", x.two(0, 1, 30), 0);
    }

    private static void twoLeavesTheOthers() {
        BeansOnTheOtherSide x = Rows.after("k499;k009;k009;b012;");
        Due.is("the first of three leaves no BAGS", x.two(1, 2, 1), 0);
        x.bags(13);
        Due.is("one BAG: the second", x.two(1, 2, 1), 10);
        Due.is("of two who are told the other way", x.two(2, 1, 1), 1);
        x.bags(15);
        Due.is("three BAGS", x.two(1, 2, 1), 11);
    }

    private static void falls(BeansOnTheOtherSide x, int n, int t, int v, long above, long below) {
        String call = "falls(" + n + ", " + t + ", " + v + ", ";
        Due.is(call + "0)", x.falls(n, t, v, 0), above);
        Due.is(call + "1)", x.falls(n, t, v, 1), below);
    }

    private static void fallsOnNoDay() {
        BeansOnTheOtherSide x = Rows.after("k009;o012;");
        falls(x, 0, 2, 0, 1, 1);
        falls(x, 0, 20, 12, 1, 1);
        falls(x, 0, 20, 13, 0, 1);
        falls(x, 0, 20, 999, 0, 1);
        falls(new BeansOnTheOtherSide(), 7, 20, 0, 1, 1);
        falls(new BeansOnTheOtherSide(), 7, 20, 1, 0, 1);
    }

    private static void fallsOnOneDay() {
        BeansOnTheOtherSide x = Rows.after("k000;t035;");
        for (int t = 2; t <= 20; t++) {
            falls(x, 1, t, 0, 1, 1);
            falls(x, 1, t, 1, 1, t);
            falls(x, 1, t, 2, 1, t);
            falls(x, 1, t, 3, 0, 1);
        }
        x.tires(0, 34);
        falls(x, 1, 2, 1, 0, 1);
        x.sleeps(0);
        falls(x, 1, 2, 1, 0, 1);
        x.tires(0, 35);
        falls(x, 1, 2, 1, 1, 1);
    }

    /** A WAKER of 50 and a NURSE: each fall costs her cup at least. */
    private static void fallsOnSevenDays() {
        BeansOnTheOtherSide x = Rows.after("k300;t050;");
        for (int t = 2; t <= 20; t++) {
            BigInteger all = BigInteger.valueOf(t).pow(7);
            BigInteger none = BigInteger.valueOf(t - 1).pow(7);
            falls(x, 7, t, 1, all.subtract(none).longValue(), all.longValue());
        }
        falls(x, 7, 20, 1, 386128261L, 1280000000L);
        falls(x, 7, 20, 0, 1, 1);
        falls(x, 7, 20, 8, 0, 1);
        // With no BAGS behind DAY 3 the falls of DAYS 1 to 3 alone are OWED.
        x.bags(3);
        falls(x, 7, 20, 1, 8000 - 19 * 19 * 19, 8000);
        x.bags(0);
        falls(x, 7, 20, 1, 0, 1);
    }

    private static void fallsOfAllWakers() {
        BeansOnTheOtherSide x = Rows.after("k300;k301;k302;k303;k304;t050;t150;t250;t350;t450;");
        falls(x, 1, 3, 1, 1, 3);
        falls(x, 1, 3, 5, 1, 3);
        falls(x, 1, 3, 6, 0, 1);
        x.wakes(4, 9);
        falls(x, 1, 3, 1, 1, 1);
        falls(x, 1, 3, 2, 1, 3);
    }

    private static void fallsInLeastTerms() {
        BeansOnTheOtherSide x = Rows.after("k300;t035;");
        // A fall on DAY 1: 20 is ASLEEP; DAY 2: 34 is 19 and AWAKE. So the first DAY alone counts.
        falls(x, 2, 2, 1, 1, 2);
        falls(x, 2, 20, 1, 1, 20);
        falls(x, 7, 20, 1, 1, 20);
        x.tires(0, 36);
        // DAYS 1 and 2 (35): 1 less 19 by 20 twice.
        falls(x, 2, 20, 1, 39, 400);
        falls(x, 2, 2, 1, 3, 4);
    }

    private static void fallsOfAtLeast() {
        BeansOnTheOtherSide x = Rows.after("k300;t065;o010;");
        // Without a fall 66 is ASLEEP on DAYS 2 to 4 (51, 36, 21): 3, and AWAKE on DAY 5.
        falls(x, 5, 2, 13, 1, 1);
        falls(x, 1, 2, 10, 1, 1);
        falls(x, 1, 2, 11, 1, 2);
        falls(x, 1, 2, 12, 0, 1);
        falls(x, 2, 2, 11, 1, 1);
        falls(x, 2, 2, 12, 1, 2);
        falls(x, 2, 2, 13, 0, 1);
    }

    private static void fallsAtTheTop() {
        BeansOnTheOtherSide x = Rows.after("k699;o069;b999;d30;");
        falls(x, 7, 20, 999, 1, 1);
        falls(x, 0, 20, 999, 1, 1);
        x = Rows.after("k699;o068;b999;d30;");
        falls(x, 0, 20, 999, 0, 1);
        falls(x, 0, 20, 998, 1, 1);
        x = Rows.after("k699;k699;o068;o168;b999;d30;");
        Due.is("two, who OWE more than 999 in all", x.count(3) > 999 ? 1 : 0, 1);
        falls(x, 0, 2, 999, 1, 1);
    }

    private static void meanAtItsEnds() {
        BeansOnTheOtherSide x = new BeansOnTheOtherSide();
        int sum = 0;
        for (int w = 0; w < 5; w++) {
            for (int tired : new int[] {1, 2, 5, 98, 99}) {
                x.tires(w, tired);
                int all = sum + tired;
                Due.is("above the line", x.mean(0), all % 5 == 0 ? all / 5 : all);
                Due.is("below the line", x.mean(1), all % 5 == 0 ? 1 : 5);
            }
            sum += 99;
        }
        Due.is("99", x.mean(0), 99);
        Due.is("by 1", x.mean(1), 1);
        x = new BeansOnTheOtherSide();
        Due.is("0", x.mean(0), 0);
        Due.is("0 by 1", x.mean(1), 1);
        x.sleeps(2);
        x.tires(2, 7);
        Due.is("ASLEEP ones, too", x.mean(0), 7);
    }

    /** The seed behind so many draws, and its draw below 5, by numbers without an end. */
    private static int draw(int z, int draws) {
        BigInteger whole = BigInteger.ONE.shiftLeft(32);
        BigInteger seed = BigInteger.valueOf(z);
        for (int i = 0; i < draws; i++) {
            seed = seed.multiply(BigInteger.valueOf(1103515245)).add(BigInteger.valueOf(12345)).mod(whole);
        }
        BigInteger noSign = seed.mod(BigInteger.ONE.shiftLeft(31));
        return noSign.divide(BigInteger.valueOf(65536)).mod(BigInteger.valueOf(5)).intValue();
    }

    /** The WAKERS are ASLEEP for 5, 4, 3, 2, 1 DAYS: 10, 8, 6, 4, 2 are OWED by the drawn one. */
    private static BeansOnTheOtherSide oneAndSleepers() {
        return Rows.after("k009;z0;z1;z2;z3;z4;t099;t180;t269;t354;t439;");
    }

    private static void yearsDrawBelowFive() {
        BeansOnTheOtherSide x = oneAndSleepers();
        for (int z : SEEDS) {
            Due.is("one YEAR with " + z, x.years(1, z, 0), 10 - 2 * draw(z, 1));
        }
        Due.is("0 draws 0", x.years(1, 0, 0), 10);
        Due.is("-1 draws 4", x.years(1, -1, 0), 2);
        Due.is("1 draws 3", x.years(1, 1, 0), 4);
        Due.is("the sign's bit is left out", x.years(1, Integer.MIN_VALUE, 0), 10);
        Due.is("all but the sign", x.years(1, Integer.MAX_VALUE, 0), 2);
    }

    private static void yearsGoOnDrawing() {
        BeansOnTheOtherSide x = oneAndSleepers();
        for (int z : SEEDS) {
            int sum = 0;
            for (int n = 1; n <= 20; n++) {
                sum += 10 - 2 * draw(z, n);
                Due.is(n + " YEARS with " + z, x.years(n, z, 0), sum);
            }
        }
    }

    /** Seven by numbers, so that each YEAR draws seven times. */
    private static void yearsOfSeven() {
        int[] owed = {0, 4, 3, 2, 1};
        for (int z : SEEDS) {
            BeansOnTheOtherSide x = Rows.after("k300;k301;k302;k303;k304;k309;k309;"
                + "z1;z2;z3;z4;t180;t269;t354;t439;b999;");
            int sum = 0;
            for (int i = 1; i <= 14; i++) {
                sum += owed[draw(z, i)];
            }
            int oneYear = 0;
            for (int i = 1; i <= 7; i++) {
                oneYear += owed[draw(z, i)];
            }
            Due.is("seven NURSES with " + z, x.years(1, z, 0), oneYear);
            Due.is("two YEARS of seven NURSES with " + z, x.years(2, z, 0), sum);
        }
    }

    private static void yearsAsleepTogether() {
        // Who wakes for a SAINT is 5 more and 2 less a DAY; the others are 2 less.
        BeansOnTheOtherSide x = Rows.after("k709;t024;t124;t224;t324;t424;");
        Due.is("24, and 11 by 3, is 57 behind 11 DAYS: 62", x.years(1, 5, 1), 1);
        Due.is("20 YEARS", x.years(20, 5, 1), 20);
        Due.is("nothing OWED", x.years(20, 5, 0), 0);
        Due.is("all AWAKE now", x.count(4), 0);
        x = Rows.after("k709;t021;t121;t221;t321;t421;");
        Due.is("59 behind 12 DAYS", x.years(20, 5, 1), 0);
        x = Rows.after("z0;z1;z2;z3;z4;t099;t199;t299;t399;t499;");
        Due.is("no DRINKERS: all wake up", x.years(20, 5, 1), 0);
        Due.is("ASLEEP as they were", x.count(4), 31);
    }

    private static void yearsOfNobody() {
        BeansOnTheOtherSide x = new BeansOnTheOtherSide();
        Due.is("nobody", x.years(1, 0, 0), 0);
        Due.is("nobody in 20", x.years(20, 0, 0), 0);
        Due.is("nobody ASLEEP", x.years(20, 0, 1), 0);
        x = Rows.after("k009;o099;b000;");
        Due.is("99 each YEAR", x.years(20, 3, 0), 1980);
        Due.is("each from now", x.drinker(0, 2), 9);
        x = Rows.onDay(999, "k009;z0;z1;z2;z3;z4;t099;t199;t299;t399;t499;");
        Due.is("from DAY 999", x.years(20, 0, 0), 200);
    }
}

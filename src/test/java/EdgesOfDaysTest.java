/** Part I of the Terms: who there is, what is drunk, and what a DAY does at its edges. */
public final class EdgesOfDaysTest {
    private static final String[] KINDS =
        {"DRINKER", "CLERK", "BANKER", "NURSE", "CAPTAIN", "LOVER", "SMUGGLER", "SAINT"};
    /** By FIGURE 0 .. 9: 2 and the half of it, cut. */
    private static final int[] BANKERS_CUPS = {2, 2, 3, 3, 4, 4, 5, 5, 6, 6};
    /** On DAYS 1 .. 6, and so on from DAY 7. */
    private static final int[] CLERKS_CUPS = {3, 2, 3, 2, 3, 2};
    private static final int[] LOVERS_CUPS = {3, 2, 0, 2, 3, 0};
    private static final String FULL_OWED = "k699;o069;b999;d30;";

    private EdgesOfDaysTest() {
    }

    public static void main(String[] args) {
        allAtFirst();
        firstDaysOfANewObject();
        sevenDrinkersAtMost();
        sevenDrinkersByTreaty();
        eachWakerIsOneOfFive();
        figuresAndKinds();
        cupsOfTheNextDay();
        cupsAtTheLastDays();
        nextCupsNeedNoBags();
        tiredAndOwedForEachCup();
        loverTiresZeroAtLeast();
        allBagsIfTheseAreLess();
        oneCupABagByNumbers();
        bagsAtTheirEnds();
        asleepAndFifteenLess();
        awakeAgainBelowTwenty();
        awakeAgainOnTheSameDay();
        awakeAndTwoLess();
        asleepFromSixtyOn();
        awakeUntilTheDayEnds();
        tiredNinetyNineAtMost();
        tiredNinetyNineAtMostOfSaints();
        owesAtMost999();
        owedInAllAtItsTop();
        tiresDoesNotSend();
        sleepsTurnsOver();
        daysUpTo999();
        daysAtOnceOrOneByOne();
        Due.close();
    }

    private static void allAtFirst() {
        BeansOnTheOtherSide x = new BeansOnTheOtherSide();
        Due.is("no DRINKERS", x.count(0), 0);
        Due.is("DAY 0", x.count(1), 0);
        Due.is("60 BAGS", x.count(2), 60);
        Due.is("nothing OWED", x.count(3), 0);
        Due.is("nobody ASLEEP", x.count(4), 0);
        Due.is("nobody TIRED", x.count(5), 0);
        for (int w = 0; w < 5; w++) {
            Due.is("TIRED at first", x.waker(w, 0), 0);
            Due.is("AWAKE at first", x.waker(w, 1), 1);
            Due.is("no DRINKERS at first", x.waker(w, 2), 0);
        }
        for (int d = 0; d < 8; d++) {
            Due.is("a SHELF holds nothing at first", x.put(d, 0, 0), -11);
        }
        Due.is("nobody goes to DAY 1 with nothing OWED", x.days(1), 0);
        Due.is("BAGS stay", x.count(2), 60);
    }

    /** Without a treaty or an IMAGE, which would make all of it anew. */
    private static void firstDaysOfANewObject() {
        BeansOnTheOtherSide x = new BeansOnTheOtherSide();
        x.keep(0, 1, 0, 0);
        for (int k = 0; k < 7; k++) {
            x.comes(0, k < 5 ? k : 9);
        }
        for (int w = 0; w < 5; w++) {
            x.tires(w, 40);
            x.sleeps(w);
        }
        Due.is("25 is ASLEEP: seven by 2", x.days(1), 14);
        Due.is("BAGS", x.count(2), 46);
        Due.is("all ASLEEP", x.count(4), 31);
        Due.is("10 is AWAKE: two by 2", x.days(1), 18);
        Due.is("BAGS", x.count(2), 32);
        Due.is("all AWAKE", x.count(4), 0);
        for (int k = 0; k < 7; k++) {
            Due.is("OWED by " + k, x.drinker(k, 3), k < 5 ? 2 : 4);
        }
        for (int w = 0; w < 5; w++) {
            Due.is("TIRED: 10 and 6, 2 less", x.waker(w, 0), 14);
        }
    }

    private static void sevenDrinkersAtMost() {
        BeansOnTheOtherSide x = new BeansOnTheOtherSide();
        for (int k = 0; k < 7; k++) {
            x.keep(0, 1, 7 - k, k);
            Due.is("no such one yet", x.drinker(k, 0), -1);
            Due.is("number " + k, x.comes(0, k < 5 ? k : 9), k);
            Due.is("how many", x.count(0), k + 1);
            Due.is("OWES 0 at first", x.drinker(k, 3), 0);
        }
        x.keep(0, 1, 0, 9);
        Due.is("no room for an eighth", x.comes(0, 0), -2);
        Due.is("no room for him later", x.comes(0, 9), -2);
        Due.is("seven", x.count(0), 7);
        for (int k = 0; k < 7; k++) {
            Due.is("KIND of " + k, x.drinker(k, 0), 7 - k);
            Due.is("FIGURE of " + k, x.drinker(k, 1), k);
            Due.is("WAKER of " + k, x.drinker(k, 2), k < 5 ? k : 9);
        }
        Due.is("no eighth", x.drinker(7, 0), -1);
    }

    private static void sevenDrinkersByTreaty() {
        BeansOnTheOtherSide x = new BeansOnTheOtherSide();
        Due.is("seven", Rows.treaty(x, "k000;k000;k000;k000;k000;k000;k000;"), 7);
        Due.is("an eighth", Rows.treaty(x, "k000;"), -2000);
        Due.is("seven yet", x.count(0), 7);
        x = Rows.after("k000;k000;k000;k000;");
        Due.is("four, and four more", Rows.treaty(x, "k000;k000;k000;k000;"), -2015);
        Due.is("none of these comes", x.count(0), 4);
        Due.is("four, and three more", Rows.treaty(x, "k000;k000;k000;"), 3);
        Due.is("room for none", Rows.treaty(x, "z1;z2;k000;"), -2006);
        Due.is("nobody sleeps by it", x.count(4), 0);
    }

    private static void eachWakerIsOneOfFive() {
        BeansOnTheOtherSide x = Rows.after("k000;k001;k002;k003;k004;k009;");
        for (int k = 0; k < 5; k++) {
            Due.is("WAKER " + k, x.drinker(k, 2), k);
            Due.is("has one", x.waker(k, 2), 1);
            Due.is("becomes nobody", x.wakes(k, 9), k);
            Due.is("has none", x.waker(k, 2), 0);
        }
        for (int k = 0; k < 5; k++) {
            Due.is("nobody becomes another", x.wakes(k, 4 - k), 9);
            Due.is("WAKER " + (4 - k), x.drinker(k, 2), 4 - k);
        }
        Due.is("nobody has none told", x.waker(9, 2), -1);
        for (int k = 0; k < 6; k++) {
            x.wakes(k, 4);
        }
        Due.is("all have one", x.waker(4, 2), 6);
        Due.is("the same again", x.wakes(5, 4), 4);
    }

    private static void figuresAndKinds() {
        for (int kind = 0; kind < 8; kind++) {
            for (int figure = 0; figure < 10; figure++) {
                BeansOnTheOtherSide x = new BeansOnTheOtherSide();
                x.keep(7, 1, kind, figure);
                x.comes(7, 0);
                Due.is(KINDS[kind] + " is of his KIND", x.drinker(0, 0), kind);
                Due.is(KINDS[kind] + " has his FIGURE", x.drinker(0, 1), figure);
            }
        }
    }

    private static int cups(int kind, int figure, int day) {
        int banker = BANKERS_CUPS[figure];
        int[] all = {2, CLERKS_CUPS[(day - 1) % 6], banker, 1, 2 * banker,
            LOVERS_CUPS[(day - 1) % 6], 2 * banker - 1, 0};
        return all[kind];
    }

    private static int tiring(int kind, int figure, int cups) {
        int[] all = {3 * cups, 2 * cups, 4 * cups, cups, 4 * cups,
            2 * cups > figure ? 2 * cups - figure : 0, 0, 5};
        return all[kind];
    }

    private static int debt(int kind, int figure, int cups) {
        int[] all = {cups, cups, 2 * cups, cups, 2 * cups, cups,
            cups == 0 ? 0 : 2 * cups + figure, 0};
        return all[kind];
    }

    private static void cupsOfTheNextDay() {
        for (int kind = 0; kind < 8; kind++) {
            for (int figure = 0; figure < 10; figure++) {
                BeansOnTheOtherSide x = Rows.after("k" + kind + figure + "0;b999;");
                for (int day = 1; day <= 13; day++) {
                    int next = cups(kind, figure, day);
                    String who = KINDS[kind] + " of " + figure + " on DAY " + day;
                    Due.is(who + " would DRINK", x.drinker(0, 4), next);
                    x.bags(999);
                    x.days(1);
                    Due.is(who + " DRINKS", 999 - x.count(2), next);
                }
            }
        }
    }

    private static void cupsAtTheLastDays() {
        int[] onDay998 = {2, 2, 3, 1, 6, 2, 5, 0};
        int[] onDay999 = {2, 3, 3, 1, 6, 0, 5, 0};
        int[] onDay1000 = {2, 2, 3, 1, 6, 2, 5, 0};
        for (int kind = 0; kind < 8; kind++) {
            BeansOnTheOtherSide x = Rows.onDay(997, "k" + kind + "39;b999;");
            Due.is(KINDS[kind] + " on DAY 998", x.drinker(0, 4), onDay998[kind]);
            x.days(1);
            Due.is(KINDS[kind] + " on DAY 999", x.drinker(0, 4), onDay999[kind]);
            x.days(1);
            Due.is(KINDS[kind] + " on the DAY behind 999", x.drinker(0, 4), onDay1000[kind]);
            Due.is("DAY", x.count(1), 999);
            Due.is("BAGS", x.count(2), 999 - onDay998[kind] - onDay999[kind]);
        }
    }

    private static void nextCupsNeedNoBags() {
        BeansOnTheOtherSide x = Rows.after("k499;b011;");
        Due.is("12 with 11 BAGS", x.drinker(0, 4), 12);
        x.bags(0);
        Due.is("12 with none", x.drinker(0, 4), 12);
        x.bags(999);
        Due.is("12 with 999", x.drinker(0, 4), 12);
    }

    /** As many cups as there are BAGS, from none to all that he DRINKS and one beyond. */
    private static void tiredAndOwedForEachCup() {
        for (int kind = 0; kind < 8; kind++) {
            for (int figure = 0; figure < 10; figure++) {
                int all = cups(kind, figure, 1);
                for (int bags = 0; bags <= all + 1; bags++) {
                    int drunk = Math.min(bags, all);
                    String who = KINDS[kind] + " of " + figure + " for " + drunk + " cups";
                    BeansOnTheOtherSide x = Rows.after("k" + kind + figure + "3;t310;");
                    x.bags(bags);
                    Due.is(who + ": nothing OWED", x.days(1), 0);
                    Due.is(who + ": TIRED", x.waker(3, 0), 8 + tiring(kind, figure, drunk));
                    Due.is(who + ": BAGS", x.count(2), bags - drunk);
                    Due.is(who + ": nobody else is TIRED", x.count(5), x.waker(3, 0));
                    owedForCups(who, kind, figure, bags, debt(kind, figure, drunk));
                }
            }
        }
    }

    private static void owedForCups(String who, int kind, int figure, int bags, int want) {
        BeansOnTheOtherSide x = Rows.after("k" + kind + figure + "9;");
        x.bags(bags);
        Due.is(who + ": OWED, with nobody", x.days(1), want);
        Due.is(who + ": nobody is TIRED", x.count(5), 0);
        x = Rows.after("k" + kind + figure + "2;z2;t299;");
        x.bags(bags);
        Due.is(who + ": OWED, with an ASLEEP one", x.days(1), want);
        Due.is(who + ": he rests", x.waker(2, 0), 84);
        Due.is(who + ": he OWES it", x.drinker(0, 3), want);
    }

    private static void loverTiresZeroAtLeast() {
        int[] tired = {16, 15, 14, 13, 12, 11, 10, 10, 10, 10};
        for (int figure = 0; figure < 10; figure++) {
            BeansOnTheOtherSide x = Rows.after("k5" + figure + "0;t012;d01;");
            Due.is("3 cups of a LOVER of " + figure, x.waker(0, 0), tired[figure]);
            x = Rows.after("d02;k5" + figure + "0;t012;d01;");
            Due.is("no cup of a LOVER of " + figure, x.waker(0, 0), 10);
        }
    }

    private static void allBagsIfTheseAreLess() {
        int[] owed = {0, 1, 2, 2, 2};
        for (int bags = 0; bags < 5; bags++) {
            BeansOnTheOtherSide x = Rows.after("k009;b00" + bags + ";d01;");
            Due.is("2 cups of " + bags + " BAGS", x.count(3), owed[bags]);
            Due.is("left of " + bags, x.count(2), bags - owed[bags]);
        }
        BeansOnTheOtherSide x = Rows.after("k499;b011;d01;");
        Due.is("11 of 12 cups", x.count(3), 22);
        x = Rows.after("k499;b012;d01;");
        Due.is("12 of 12 cups", x.count(3), 24);
        Due.is("none left", x.count(2), 0);
        Due.is("none on the next DAY", x.days(1), 24);
    }

    private static void oneCupABagByNumbers() {
        BeansOnTheOtherSide x = Rows.after("k009;k109;k309;k009;b006;d01;");
        int[] owed = {2, 3, 1, 0};
        for (int k = 0; k < 4; k++) {
            Due.is("by numbers: " + k, x.drinker(k, 3), owed[k]);
        }
        x = Rows.after("k009;k109;k309;k009;b004;d01;");
        int[] less = {2, 2, 0, 0};
        for (int k = 0; k < 4; k++) {
            Due.is("by numbers, with 4 BAGS: " + k, x.drinker(k, 3), less[k]);
        }
    }

    private static void bagsAtTheirEnds() {
        BeansOnTheOtherSide x = Rows.after("k499;k499;k499;k499;k499;k499;k499;b999;");
        Due.is("84 cups a DAY", x.days(11), 11 * 168);
        Due.is("75 left of 999", x.count(2), 75);
        Due.is("6 of them by 12, and 3", x.days(1), 11 * 168 + 150);
        Due.is("the last has 3", x.drinker(6, 3), 11 * 24 + 6);
        Due.is("none left", x.count(2), 0);
        Due.is("nothing more", x.days(60), 11 * 168 + 150);
        Due.is("none is none", x.bags(999), 0);
        Due.is("999", x.bags(0), 999);
        Due.is("0", x.bags(1), 0);
    }

    /** Without DRINKERS: what one TIRED who is ASLEEP is a DAY later. */
    private static void asleepAndFifteenLess() {
        for (int tired = 0; tired < 100; tired++) {
            BeansOnTheOtherSide x = new BeansOnTheOtherSide();
            x.tires(4, tired);
            x.sleeps(4);
            x.days(1);
            int rested = tired < 15 ? 0 : tired - 15;
            boolean wakes = rested < 20;
            int want = wakes ? (rested < 2 ? 0 : rested - 2) : rested;
            Due.is("ASLEEP and TIRED " + tired, x.waker(4, 0), want);
            Due.is("AWAKE again from " + tired, x.waker(4, 1), wakes ? 1 : 0);
        }
    }

    private static void awakeAgainBelowTwenty() {
        BeansOnTheOtherSide x = Rows.after("z0;t034;z1;t135;z2;t236;z3;t320;z4;d01;");
        Due.is("19 and 5 wake up, 20 does not", x.count(4), 6);
        Due.is("34 is 19, and 2 less", x.waker(0, 0), 17);
        Due.is("35 is 20", x.waker(1, 0), 20);
        Due.is("36 is 21", x.waker(2, 0), 21);
        Due.is("20 is 5, and 2 less", x.waker(3, 0), 3);
        Due.is("0 is 0", x.waker(4, 0), 0);
        x.days(1);
        Due.is("all are AWAKE", x.count(4), 0);
        Due.is("20 is 5, and 2 less", x.waker(1, 0), 3);
        x = Rows.after("z4;t499;");
        int[] tired = {84, 69, 54, 39, 24, 7};
        for (int i = 0; i < 6; i++) {
            x.days(1);
            Due.is("99 on DAY " + (i + 1), x.waker(4, 0), tired[i]);
            Due.is("AWAKE on DAY " + (i + 1), x.waker(4, 1), i < 5 ? 0 : 1);
        }
    }

    private static void awakeAgainOnTheSameDay() {
        BeansOnTheOtherSide x = Rows.after("k001;z1;t134;d01;");
        Due.is("19 wakes for 2 cups", x.count(3), 0);
        Due.is("19 and 6, 2 less", x.waker(1, 0), 23);
        x = Rows.after("k001;z1;t135;d01;");
        Due.is("20 does not", x.count(3), 2);
        Due.is("20", x.waker(1, 0), 20);
        x = Rows.after("k001;z1;t110;d01;");
        Due.is("10 is 0, not below: 6, 2 less", x.waker(1, 0), 4);
        x = Rows.after("k001;z1;t115;d01;");
        Due.is("15 is 0: 6, 2 less", x.waker(1, 0), 4);
        x = Rows.after("k001;z1;t116;d01;");
        Due.is("16 is 1: 7, 2 less", x.waker(1, 0), 5);
    }

    private static void awakeAndTwoLess() {
        for (int tired = 0; tired < 100; tired++) {
            BeansOnTheOtherSide x = new BeansOnTheOtherSide();
            x.tires(0, tired);
            x.days(1);
            int want = tired >= 60 ? tired : tired < 2 ? 0 : tired - 2;
            Due.is("AWAKE and TIRED " + tired, x.waker(0, 0), want);
            Due.is("ASLEEP from " + tired, x.waker(0, 1), tired >= 60 ? 0 : 1);
        }
    }

    private static void asleepFromSixtyOn() {
        BeansOnTheOtherSide x = Rows.after("k000;k001;k002;t053;t154;t255;d01;");
        Due.is("59 stays AWAKE", x.waker(0, 1), 1);
        Due.is("2 less", x.waker(0, 0), 57);
        Due.is("60 is ASLEEP", x.waker(1, 1), 0);
        Due.is("and no less TIRED", x.waker(1, 0), 60);
        Due.is("61 is ASLEEP", x.waker(2, 1), 0);
        Due.is("61", x.waker(2, 0), 61);
        Due.is("bits", x.count(4), 6);
    }

    private static void awakeUntilTheDayEnds() {
        BeansOnTheOtherSide x = Rows.after("k001;k001;k001;t199;d01;");
        Due.is("99 wakes for all that DAY", x.count(3), 0);
        Due.is("and is ASLEEP behind it", x.count(4), 2);
        Due.is("84 is ASLEEP: 6 OWED", x.days(1), 6);
    }

    private static void tiredNinetyNineAtMost() {
        for (int tired = 90; tired < 100; tired++) {
            BeansOnTheOtherSide x = Rows.after("k002;t2" + tired + ";d01;");
            Due.is(tired + " and 6", x.waker(2, 0), Math.min(99, tired + 6));
            Due.is(tired + " in mind", Rows.after("k002;t2" + tired + ";").tiredThen(2, 1),
                Math.min(99, tired + 6));
        }
        BeansOnTheOtherSide x = Rows.after("k490;k491;k492;k493;k494;k490;k491;b999;"
            + "t099;t199;t299;t399;t499;d01;");
        Due.is("all are 99", x.count(5), 495);
        Due.is("all are ASLEEP", x.count(4), 31);
    }

    private static void tiredNinetyNineAtMostOfSaints() {
        BeansOnTheOtherSide x = Rows.after("k700;t093;d01;");
        Due.is("93 and 5", x.waker(0, 0), 98);
        x = Rows.after("k700;t094;d01;");
        Due.is("94 and 5", x.waker(0, 0), 99);
        x = Rows.after("k700;t095;d01;");
        Due.is("95 and 5", x.waker(0, 0), 99);
        x = Rows.after("k700;b000;d01;");
        Due.is("5 without BAGS, 2 less", x.waker(0, 0), 3);
    }

    /** 30 DAYS of 31 are 930. */
    private static void owesAtMost999() {
        int[] owed = {998, 999, 999};
        for (int i = 0; i < 3; i++) {
            BeansOnTheOtherSide x = Rows.after("k699;o0" + (68 + i) + ";b999;");
            Due.is("30 DAYS from " + (68 + i) + " on, in mind", x.owesThen(0, 30), owed[i]);
            Due.is("30 DAYS from " + (68 + i) + " on", x.days(30), owed[i]);
            Due.is("one DAY more", x.days(1), 999);
            Due.is("he OWES no more", x.days(2), 999);
            Due.is("he DRINKS as ever", x.count(2), 999 - 33 * 11);
        }
        BeansOnTheOtherSide x = Rows.after(FULL_OWED);
        Due.is("999", x.drinker(0, 3), 999);
        Due.is("may become less", Rows.treaty(x, "o098;"), 1);
        Due.is("98", x.drinker(0, 3), 98);
    }

    private static void owedInAllAtItsTop() {
        BeansOnTheOtherSide x = Rows.after("k699;k699;k699;k699;k699;k699;k699;");
        for (int i = 0; i < 5; i++) {
            x.bags(999);
            x.days(10);
        }
        Due.is("seven by 999", x.count(3), 6993);
        Due.is("told by days, too", x.days(1), 6993);
        Due.is("in mind, too", x.then(60, 2), 6993);
        for (int k = 0; k < 7; k++) {
            Due.is("each 999", x.drinker(k, 3), 999);
        }
    }

    private static void tiresDoesNotSend() {
        BeansOnTheOtherSide x = new BeansOnTheOtherSide();
        Due.is("0 at first", x.tires(1, 99), 0);
        Due.is("99 is AWAKE till a DAY ends", x.waker(1, 1), 1);
        x.sleeps(1);
        Due.is("99", x.tires(1, 0), 99);
        Due.is("0 is ASLEEP till a DAY begins", x.waker(1, 1), 0);
        Due.is("0", x.tires(1, 0), 0);
        x.days(1);
        Due.is("AWAKE", x.waker(1, 1), 1);
    }

    private static void sleepsTurnsOver() {
        BeansOnTheOtherSide x = new BeansOnTheOtherSide();
        int bits = 0;
        for (int w = 0; w < 5; w++) {
            bits += 1 << w;
            Due.is("ASLEEP: " + w, x.sleeps(w), 0);
            Due.is("bits", x.count(4), bits);
        }
        for (int w = 0; w < 5; w++) {
            bits -= 1 << w;
            Due.is("AWAKE: " + w, x.sleeps(w), 1);
            Due.is("bits", x.count(4), bits);
        }
    }

    private static void daysUpTo999() {
        BeansOnTheOtherSide x = Rows.onDay(939, "k009;");
        Due.is("60 DAYS to 999", x.days(60), 60);
        Due.is("DAY 999", x.count(1), 999);
        Due.is("not one more", x.days(1), -3);
        Due.is("DAY 999 yet", x.count(1), 999);
        x = Rows.onDay(940, "k009;");
        Due.is("60 DAYS to 1000", x.days(60), -3);
        Due.is("none of them goes", x.count(1), 940);
        Due.is("nothing is drunk", x.count(2), 60);
        Due.is("nothing is OWED", x.count(3), 0);
        Due.is("59 DAYS to 999", x.days(59), 60);
        x = Rows.onDay(998, "k009;");
        Due.is("two to 1000", x.days(2), -3);
        Due.is("one to 999", x.days(1), 2);
    }

    private static void daysAtOnceOrOneByOne() {
        String text = "k010;k121;k272;k303;k454;k569;k682;b400;";
        BeansOnTheOtherSide atOnce = Rows.after(text);
        BeansOnTheOtherSide oneByOne = Rows.after(text);
        atOnce.days(60);
        for (int i = 0; i < 60; i++) {
            oneByOne.days(1);
        }
        Due.holds("60 DAYS at once are 60 by one", State.of(atOnce).equals(State.of(oneByOne)));
    }
}

/** WHAT KIND, SHED, FORGED and JUDGED: empty ROWS and full ones, what is skipped, none. */
public final class EdgesOfToldRowsTest {
    private static final int ALL_KINDS = 255;
    private static final int ALL_FIGURES = 1023;
    private static final int[] LEAST = {-128, -32768, Integer.MIN_VALUE};
    /** By SORT: what is not the least number of it, and is OWED by none. */
    private static final int[][] NOT_LEAST =
        {{-127, -1, 127}, {-32767, -128, -1}, {Integer.MIN_VALUE + 1, -32768, -128}};

    private EdgesOfToldRowsTest() {
    }

    public static void main(String[] args) {
        whatIsByEmptyRow();
        whatIsByNow();
        whatIsSkipsTheLeastAlone();
        whatIsByHundred();
        whatIsOfEachKind();
        whatIsOfEachFigure();
        whatIsChangesHimAlone();
        whatIsWithWakers();
        whatIsAtDay999();
        whatIsAtTheTop();
        shedByEmptyRow();
        shedFromNoneTo200();
        shedSkipsTheLeastAlone();
        shedOfNone();
        shedByHundred();
        shedBeginsBehindOneDay();
        forgedByEmptyRow();
        forgedNoSuchDrinker();
        forgedSkipsNothing();
        forgedAtTheTop();
        judgeByEmptyRow();
        judgeFromNowOn();
        judgeSkipsTheLeastAlone();
        judgeByHundred();
        Due.close();
    }

    private static void whatIsByEmptyRow() {
        BeansOnTheOtherSide x = Rows.after("k249;o099;");
        for (int sort = 0; sort < 3; sort++) {
            x.row(sort, sort, 0);
            Due.is("all KINDS", x.whatIs(sort, 0, 0), ALL_KINDS);
            Due.is("all FIGURES", x.whatIs(sort, 0, 1), ALL_FIGURES);
        }
    }

    private static void whatIsByNow() {
        BeansOnTheOtherSide x = Rows.after("k249;o012;");
        Rows.tell(x, 0, Rows.BYTES, 12);
        Due.is("12 now: all KINDS", x.whatIs(0, 0, 0), ALL_KINDS);
        Due.is("12 now: all FIGURES", x.whatIs(0, 0, 1), ALL_FIGURES);
        x.put(0, 0, 13);
        Due.is("13 now: no KIND", x.whatIs(0, 0, 0), 0);
        Due.is("13 now: no FIGURE", x.whatIs(0, 0, 1), 0);
        x.put(0, 0, 20);
        Due.is("20 is behind a DAY, not now", x.whatIs(0, 0, 0), 0);
        Rows.tell(x, 0, Rows.BYTES, -128, 20);
        Due.is("20 behind a DAY", x.whatIs(0, 0, 0), 4);
    }

    private static void whatIsSkipsTheLeastAlone() {
        BeansOnTheOtherSide x = Rows.after("k249;");
        for (int sort = 0; sort < 3; sort++) {
            Rows.tell(x, 0, sort, LEAST[sort], LEAST[sort]);
            Due.is("skipped: all KINDS", x.whatIs(0, 0, 0), ALL_KINDS);
            Due.is("skipped: all FIGURES", x.whatIs(0, 0, 1), ALL_FIGURES);
            for (int told : NOT_LEAST[sort]) {
                Rows.tell(x, 0, sort, LEAST[sort], told);
                Due.is(told + " is not skipped: no KIND", x.whatIs(0, 0, 0), 0);
                Due.is(told + " is not skipped: no FIGURE", x.whatIs(0, 0, 1), 0);
            }
            Rows.tell(x, 0, sort, 0, LEAST[sort], 16);
            Due.is("16 behind 2 DAYS", x.whatIs(0, 0, 0), 4);
        }
    }

    private static void whatIsByHundred() {
        BeansOnTheOtherSide x = Rows.after("k309;b999;");
        Rows.tellHundred(x, 0, Rows.BYTES, -128, 99);
        Due.is("99 behind 99 DAYS: a NURSE", x.whatIs(0, 0, 0), 8);
        Due.is("of any FIGURE", x.whatIs(0, 0, 1), ALL_FIGURES);
        x.put(0, 99, 100);
        Due.is("100 behind 99 DAYS: no KIND", x.whatIs(0, 0, 0), 0);
        x.put(0, 99, -128);
        Due.is("100 skipped: all KINDS", x.whatIs(0, 0, 0), ALL_KINDS);
        x.put(0, 60, 60);
        Due.is("60 behind 60 DAYS", x.whatIs(0, 0, 0), 8);
        x.put(0, 61, 62);
        Due.is("62 behind 61 DAYS", x.whatIs(0, 0, 0), 0);
    }

    /** Of FIGURE 2 the KINDS OWE, with nobody, on DAYS 1, 2, 3: this is told of each. */
    private static void whatIsOfEachKind() {
        int[][] owed = {{2, 4, 6}, {3, 5, 8}, {6, 12, 18}, {1, 2, 3}, {12, 24, 36}, {3, 5, 5},
            {12, 24, 36}, {0, 0, 0}};
        int[] kinds = {1, 2, 4, 8, 16 + 64, 32, 16 + 64, 128};
        for (int kind = 0; kind < 8; kind++) {
            BeansOnTheOtherSide x = Rows.after("k" + (7 - kind) + "29;");
            Rows.tell(x, 0, Rows.SHORTS, 0, owed[kind][0], owed[kind][1], owed[kind][2]);
            Due.is("KINDS that owe as KIND " + kind, x.whatIs(0, 0, 0), kinds[kind]);
        }
        BeansOnTheOtherSide x = Rows.after("k009;");
        Rows.tell(x, 0, Rows.SHORTS, 0, 8);
        Due.is("8 by a CAPTAIN of FIGURE 0", x.whatIs(0, 0, 0), 16);
        Rows.tell(x, 0, Rows.SHORTS, 0, 6);
        Due.is("6 by a SMUGGLER of FIGURE 0", x.whatIs(0, 0, 0), 64);
        Rows.tell(x, 0, Rows.SHORTS, 0, -32768, 4);
        Due.is("4 behind 2 DAYS by a DRINKER", x.whatIs(0, 0, 0), 1);
    }

    private static void whatIsOfEachFigure() {
        for (int figure = 0; figure < 10; figure++) {
            BeansOnTheOtherSide x = Rows.after("k2" + (9 - figure) + "9;");
            Rows.tell(x, 0, Rows.BYTES, 0, 4 + figure / 2 * 2);
            Due.is("a BANKER of " + figure, x.whatIs(0, 0, 1), 3 << figure / 2 * 2);
            x = Rows.after("k6" + (9 - figure) + "9;");
            Rows.tell(x, 0, Rows.BYTES, 0, 2 * (3 + figure / 2 * 2) + figure);
            Due.is("a SMUGGLER of " + figure, x.whatIs(0, 0, 1), 1 << figure);
        }
    }

    private static void whatIsChangesHimAlone() {
        BeansOnTheOtherSide x = Rows.after("k009;k249;k009;b006;");
        // The first two DRINK all: what the third is makes no odds.
        Rows.tell(x, 0, Rows.BYTES, 0, 0);
        Due.is("no cup is left to the third: all KINDS", x.whatIs(0, 2, 0), ALL_KINDS);
        Due.is("no cup is left to the third: all FIGURES", x.whatIs(0, 2, 1), ALL_FIGURES);
        Rows.tell(x, 0, Rows.BYTES, 0, 2);
        Due.is("he OWES nothing, whatever he is", x.whatIs(0, 2, 0), 0);
        Rows.tell(x, 0, Rows.BYTES, 0, 8);
        Due.is("8 by the second", x.whatIs(0, 1, 0), 4 + 16);
        Due.is("his FIGURES: 4 cups or more", x.whatIs(0, 1, 1), ALL_FIGURES - 15);
        Due.is("he is as he was", x.drinker(1, 0), 2);
        Due.is("and his FIGURE", x.drinker(1, 1), 4);
    }

    private static void whatIsWithWakers() {
        BeansOnTheOtherSide x = Rows.after("k000;");
        Rows.tell(x, 0, Rows.BYTES, 0, 0, 0, 0);
        Due.is("woken for: 0 by all", x.whatIs(0, 0, 0), ALL_KINDS);
        Rows.treaty(x, "t050;");
        // On DAY 1 60 are reached by a CAPTAIN of 0 (16 more) alone: he OWES 8 on DAY 2.
        Rows.tell(x, 0, Rows.BYTES, 0, 0, 8);
        Due.is("a CAPTAIN sends his WAKER to sleep", x.whatIs(0, 0, 0), 16);
    }

    private static void whatIsAtDay999() {
        BeansOnTheOtherSide x = Rows.onDay(999, "k709;");
        Rows.tell(x, 0, Rows.BYTES, 0, 2, 5);
        Due.is("DAY 1001 is odd: a CLERK, a LOVER", x.whatIs(0, 0, 0), 2 + 32);
        Rows.tell(x, 0, Rows.BYTES, 0, 2, 5, 5);
        Due.is("3 divides DAY 1002: a LOVER", x.whatIs(0, 0, 0), 32);
    }

    private static void whatIsAtTheTop() {
        BeansOnTheOtherSide x = Rows.after("k699;o069;b999;d30;b999;");
        Rows.tell(x, 0, Rows.SHORTS, 999, 999, 999);
        Due.is("who OWES 999 OWES no more", x.whatIs(0, 0, 0), ALL_KINDS);
        Rows.tell(x, 0, Rows.SHORTS, 999, 1000);
        Due.is("1000 is OWED by none", x.whatIs(0, 0, 0), 0);
        Rows.tell(x, 0, Rows.BYTES, 999);
        Due.is("999 is no byte", x.whatIs(0, 0, 0), 0);
    }

    private static void shedIs(BeansOnTheOtherSide x, int many, int least, int greatest) {
        Due.is("how many", x.shed(0, 0), many);
        Due.is("the least", x.shed(0, 1), least);
        Due.is("the greatest", x.shed(0, 2), greatest);
    }

    private static void shedByEmptyRow() {
        BeansOnTheOtherSide x = Rows.after("k009;b999;");
        for (int sort = 0; sort < 3; sort++) {
            x.row(0, sort, 0);
            shedIs(x, 201, 0, 200);
        }
    }

    private static void shedFromNoneTo200() {
        BeansOnTheOtherSide x = Rows.after("k009;b999;");
        Rows.tell(x, 0, Rows.SHORTS, 198);
        shedIs(x, 1, 200, 200);
        x.put(0, 0, 199);
        shedIs(x, 0, -4, -4);
        x.put(0, 0, 1);
        shedIs(x, 1, 3, 3);
        x.put(0, 0, 0);
        shedIs(x, 3, 0, 2);
        x = Rows.after("z0;z0;");
        Rows.tell(x, 0, Rows.SHORTS, 200);
        shedIs(x, 1, 200, 200);
        x.put(0, 0, 201);
        shedIs(x, 0, -4, -4);
        x.put(0, 0, 0);
        shedIs(x, 1, 0, 0);
        x.put(0, 0, -1);
        shedIs(x, 0, -4, -4);
        Due.is("BAGS are as they were", x.count(2), 60);
        x = Rows.after("k499;k499;k499;k499;k499;k499;k499;");
        Rows.tell(x, 0, Rows.BYTES, -128, 0);
        shedIs(x, 169, 0, 168);
        Rows.tell(x, 0, Rows.BYTES, -128, -128, 0);
        shedIs(x, 201, 0, 200);
        Rows.tell(x, 0, Rows.BYTES, 116, 32);
        shedIs(x, 1, 200, 200);
    }

    private static void shedSkipsTheLeastAlone() {
        BeansOnTheOtherSide x = Rows.after("k309;");
        for (int sort = 0; sort < 3; sort++) {
            Rows.tell(x, 0, sort, LEAST[sort], LEAST[sort], LEAST[sort]);
            shedIs(x, 201, 0, 200);
            Rows.tell(x, 0, sort, LEAST[sort], 5, LEAST[sort]);
            shedIs(x, 1, 7, 7);
            Rows.tell(x, 0, sort, 6, LEAST[sort], 5);
            shedIs(x, 0, -4, -4);
            Rows.tell(x, 0, sort, LEAST[sort], LEAST[sort] + 1);
            shedIs(x, 0, -4, -4);
        }
        Rows.tell(x, 0, Rows.SHORTS, -128, 5);
        shedIs(x, 0, -4, -4);
        Rows.tell(x, 0, Rows.INTS, -32768, 5);
        shedIs(x, 0, -4, -4);
    }

    private static void shedOfNone() {
        BeansOnTheOtherSide x = Rows.after("k309;");
        Rows.tell(x, 0, Rows.BYTES, 7, 7);
        shedIs(x, 0, -4, -4);
        Rows.tell(x, 0, Rows.BYTES, 7, 8);
        shedIs(x, 0, -4, -4);
        Rows.tell(x, 0, Rows.BYTES, 1, 0, 0);
        shedIs(x, 1, 2, 2);
        Rows.tell(x, 0, Rows.BYTES, 0, 0, 0);
        shedIs(x, 2, 0, 1);
    }

    private static void shedByHundred() {
        BeansOnTheOtherSide x = Rows.after("k309;b000;");
        Rows.tellHundred(x, 0, Rows.SHORTS, -32768, 0);
        shedIs(x, 101, 0, 100);
        x.put(0, 99, 1);
        shedIs(x, 1, 101, 101);
        x.put(0, 99, 100);
        shedIs(x, 1, 200, 200);
        x.put(0, 99, 101);
        shedIs(x, 0, -4, -4);
    }

    private static void shedBeginsBehindOneDay() {
        BeansOnTheOtherSide x = Rows.after("k109;");
        Rows.tell(x, 0, Rows.BYTES, 60);
        shedIs(x, 1, 63, 63);
        Rows.tell(x, 0, Rows.BYTES, 57, 55, 52);
        shedIs(x, 1, 60, 60);
        x.days(1);
        shedIs(x, 0, -4, -4);
        Rows.tell(x, 0, Rows.BYTES, 55, 52);
        shedIs(x, 1, 57, 57);
        x = Rows.onDay(999, "k109;");
        Rows.tell(x, 0, Rows.BYTES, 55, 52);
        shedIs(x, 1, 57, 57);
        x = Rows.after("k509;");
        Rows.tell(x, 0, Rows.BYTES, 57, 55, 55, 53);
        shedIs(x, 1, 60, 60);
        x = Rows.after("k509;d02;");
        Rows.tell(x, 0, Rows.BYTES, 60, 58, 55, 55);
        shedIs(x, 1, 60, 60);
    }

    private static void forgedByEmptyRow() {
        BeansOnTheOtherSide x = new BeansOnTheOtherSide();
        for (int sort = 0; sort < 3; sort++) {
            x.row(0, sort, 0);
            Due.is("nothing told of none", x.forged(0), -4);
        }
        Rows.treaty(x, "k009;o099;");
        Due.is("nothing told of one", x.forged(0), -4);
    }

    private static void forgedNoSuchDrinker() {
        BeansOnTheOtherSide x = new BeansOnTheOtherSide();
        Rows.tell(x, 0, Rows.BYTES, 0);
        Due.is("none has come", x.forged(0), 0);
        Rows.treaty(x, "k009;k009;k009;k009;k009;k009;k009;o601;");
        Rows.tell(x, 0, Rows.BYTES, 0, 0, 0, 0, 0, 0, 1);
        Due.is("all seven", x.forged(0), -4);
        x.put(0, 6, 0);
        Due.is("the seventh", x.forged(0), 6);
        x.put(0, 0, 1);
        Due.is("the first of two", x.forged(0), 0);
        Rows.tell(x, 0, Rows.BYTES, 0, 0, 0, 0, 0, 0, 1, 0);
        Due.is("no eighth", x.forged(0), 7);
        Rows.tell(x, 0, Rows.BYTES, 0, 0, 0, 0, 0, 0);
        Due.is("the seventh is not told of", x.forged(0), -4);
        Rows.tellHundred(x, 0, Rows.INTS, 0, 0);
        Due.is("of 100 the seventh", x.forged(0), 6);
        x.put(0, 6, 1);
        Due.is("of 100 the eighth", x.forged(0), 7);
    }

    private static void forgedSkipsNothing() {
        BeansOnTheOtherSide x = Rows.after("k009;k009;o112;");
        for (int sort = 0; sort < 3; sort++) {
            Rows.tell(x, 0, sort, 0, LEAST[sort]);
            Due.is("the least is as any other", x.forged(0), 1);
            Rows.tell(x, 0, sort, LEAST[sort], 13);
            Due.is("the least is the first", x.forged(0), 0);
        }
    }

    private static void forgedAtTheTop() {
        BeansOnTheOtherSide x = Rows.after("k699;o069;b999;d30;");
        Rows.tell(x, 0, Rows.SHORTS, 999);
        Due.is("999", x.forged(0), -4);
        Rows.tell(x, 0, Rows.SHORTS, 1000);
        Due.is("1000", x.forged(0), 0);
        Rows.tell(x, 0, Rows.BYTES, 999);
        Due.is("999 is no byte", x.forged(0), 0);
        Rows.tell(x, 0, Rows.SHORTS, 999 + 65536);
        Due.is("its lowest bits are", x.forged(0), -4);
        Rows.treaty(x, "o099;");
        Due.is("now 99", x.forged(0), 0);
    }

    private static void judgeByEmptyRow() {
        BeansOnTheOtherSide x = Rows.after("k009;");
        for (int sort = 0; sort < 3; sort++) {
            x.row(0, sort, 0);
            Due.is("nothing told", x.judge(0), -4);
        }
    }

    private static void judgeFromNowOn() {
        BeansOnTheOtherSide x = Rows.after("k109;");
        Rows.tell(x, 0, Rows.BYTES, 60);
        Due.is("60 now", x.judge(0), -4);
        x.put(0, 0, 57);
        Due.is("57 is behind a DAY", x.judge(0), 0);
        Rows.tell(x, 0, Rows.BYTES, 60, 57, 55, 52, 50, 47);
        Due.is("all so", x.judge(0), -4);
        x.put(0, 5, 48);
        Due.is("the last is not", x.judge(0), 5);
        x.put(0, 3, 53);
        Due.is("the first of two", x.judge(0), 3);
        x.days(1);
        Due.is("a DAY later", x.judge(0), 0);
        x = Rows.after("k009;b003;");
        Rows.tell(x, 0, Rows.BYTES, 3, 1, 0, 0);
        Due.is("down to none", x.judge(0), -4);
        x.put(0, 3, -1);
        Due.is("not below", x.judge(0), 3);
        x = Rows.onDay(999, "k109;b999;");
        Rows.tell(x, 0, Rows.SHORTS, 999, 997, 994);
        Due.is("from DAY 999 on", x.judge(0), -4);
    }

    private static void judgeSkipsTheLeastAlone() {
        BeansOnTheOtherSide x = Rows.after("k009;");
        for (int sort = 0; sort < 3; sort++) {
            Rows.tell(x, 0, sort, LEAST[sort], LEAST[sort], LEAST[sort]);
            Due.is("all skipped", x.judge(0), -4);
            Rows.tell(x, 0, sort, LEAST[sort], 58, LEAST[sort] + 1);
            Due.is("one more than the least", x.judge(0), 2);
            Rows.tell(x, 0, sort, LEAST[sort], 58, LEAST[sort], 53);
            Due.is("behind what is skipped", x.judge(0), 3);
            Rows.tell(x, 0, sort, 60, LEAST[sort], 56);
            Due.is("so, behind what is skipped", x.judge(0), -4);
        }
        Rows.tell(x, 0, Rows.SHORTS, -128);
        Due.is("-128 of shorts", x.judge(0), 0);
        Rows.tell(x, 0, Rows.INTS, -32768);
        Due.is("-32768 of ints", x.judge(0), 0);
        Rows.tell(x, 0, Rows.INTS, -128);
        Due.is("-128 of ints", x.judge(0), 0);
    }

    private static void judgeByHundred() {
        BeansOnTheOtherSide x = Rows.after("k309;b100;");
        Rows.tellHundred(x, 0, Rows.BYTES, -128, 1);
        Due.is("1 behind 99 DAYS", x.judge(0), -4);
        x.put(0, 99, 0);
        Due.is("not 0", x.judge(0), 99);
        x.put(0, 60, 40);
        x.put(0, 61, 39);
        Due.is("40 and 39 behind 60 and 61", x.judge(0), 99);
        x.put(0, 61, 40);
        Due.is("not 40", x.judge(0), 61);
    }
}

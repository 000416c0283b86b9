/** THE TEXT of a TREATY: what may stand at each place, and each number at its ends. */
public final class EdgesOfTreatyTest {
    /** Each STATEMENT as it may stand; k goes ahead where one is needed. */
    private static final String[] STATEMENTS = {"k123;", "w04;", "t312;", "z2;", "b123;", "o045;", "d07;"};
    private static final String LETTERS = "kwtzbod";

    private EdgesOfTreatyTest() {
    }

    public static void main(String[] args) {
        oneStatementAtLeast();
        textThatLacksItsEnd();
        lettersAtEachPlace();
        digitsAtEachPlace();
        semicolonAtEachPlace();
        bytesAboveSevenBits();
        firstOfSeveralFaults();
        kindOneAheadOfKindTwo();
        textOfHundredBytes();
        kindFigureAndWaker();
        wakerOfDrinker();
        tiredOfWaker();
        asleepOrAwake();
        bagsOfThreeDigits();
        owedOfDrinker();
        daysOneToSixty();
        dayAbove999();
        eachOnWhatWasMade();
        allOrNothing();
        rowStays();
        doneTwice();
        Due.close();
    }

    private static void is(String text, int want) {
        BeansOnTheOtherSide x = new BeansOnTheOtherSide();
        Rows.tell(x, 3, Rows.BYTES, text.chars().toArray());
        String before = State.of(x);
        Due.is("treaty \"" + text + "\"", x.treaty(3), want);
        if (want < 0) {
            Due.holds("nothing comes of \"" + text + "\"", before.equals(State.of(x)));
        }
    }

    private static void oneStatementAtLeast() {
        is("", -1000);
        is("z0;", 1);
        is(";", -1000);
        is("z0;;", -1003);
        is("z0;z0;", 2);
        is("k009;k119;k229;k339;k449;k559;k669;", 7);
    }

    /** A place is lacking behind each beginning that is not a whole TEXT: the end is told. */
    private static void textThatLacksItsEnd() {
        for (String statement : STATEMENTS) {
            for (int n = 0; n < statement.length(); n++) {
                is(statement.substring(0, n), -1000 - n);
                if (n > 0) {
                    is("k009;" + statement.substring(0, n), -1005 - n);
                }
            }
            is("k009;" + statement, 2);
        }
        is("k009;z1;t0", -1010);
        is("k009;z1;t023", -1012);
        is("k009;z1;t023;", 3);
    }

    private static String with(String text, int place, int b) {
        return text.substring(0, place) + (char) b + text.substring(place + 1);
    }

    private static void lettersAtEachPlace() {
        for (int b = 0; b < 256; b++) {
            if (LETTERS.indexOf(b) < 0) {
                is(with("z123;", 0, b), -1000);
                is(with("z1;z2;", 3, b), -1003);
            }
        }
    }

    private static void digitsAtEachPlace() {
        for (String statement : STATEMENTS) {
            for (int place = 1; place < statement.length() - 1; place++) {
                for (int b = 0; b < 256; b++) {
                    if (b < '0' || b > '9') {
                        is(with(statement, place, b), -1000 - place);
                    }
                }
            }
        }
    }

    private static void semicolonAtEachPlace() {
        for (String statement : STATEMENTS) {
            int place = statement.length() - 1;
            for (int b = 0; b < 256; b++) {
                if (b != ';') {
                    is("z0;" + with(statement, place, b), -1003 - place);
                }
            }
            is(statement.substring(0, place) + "0;", -1000 - place);
            is(statement.substring(0, place) + statement, -1000 - place);
        }
    }

    private static void bytesAboveSevenBits() {
        is(with("z1;", 0, 'z' + 128), -1000);
        is(with("z1;", 1, '1' + 128), -1001);
        is(with("z1;", 2, ';' + 128), -1002);
        BeansOnTheOtherSide x = new BeansOnTheOtherSide();
        Rows.tell(x, 0, Rows.BYTES, 'z' + 256, '1' - 256, ';' + 65536);
        Due.is("lowest bits alone are kept", x.treaty(0), 1);
        Due.is("1 is ASLEEP", x.count(4), 2);
    }

    private static void firstOfSeveralFaults() {
        is("z1;x;y;", -1003);
        is("z1;zz;", -1004);
        is("zz;x", -1001);
        is("z5;k800;", -2000);
        is("z4;k800;z5;", -2003);
        is("z4;b000;t500;w99;", -2008);
    }

    private static void kindOneAheadOfKindTwo() {
        is("z5;x", -1003);
        is("k899;k", -1006);
        is("d00;z1", -1006);
        is("z5;z1;;", -1006);
        is("w00;z1;t04", -1010);
    }

    private static void textOfHundredBytes() {
        StringBuilder bags = new StringBuilder();
        StringBuilder sleeps = new StringBuilder();
        for (int i = 0; i < 20; i++) {
            bags.append("b").append(100 + i).append(';');
        }
        for (int i = 0; i < 32; i++) {
            sleeps.append("z3;");
        }
        is(bags.toString(), 20);
        is(sleeps + "w00;", -2096);
        is(sleeps + "d01;", 33);
        is(sleeps + "z3;z", -1100);
        is(sleeps + "d01", -1099);
        is(sleeps + "d010", -1099);
        is(sleeps + "z3;;", -1099);
        is(bags.substring(0, 99), -1099);
        is(bags.substring(0, 99) + ':', -1099);
        is("x" + bags.substring(1), -1000);
        is("z1;" + bags.substring(3), -1003);
        BeansOnTheOtherSide x = Rows.after(bags.toString());
        Due.is("the last of 20", x.count(2), 119);
    }

    private static void kindFigureAndWaker() {
        for (int v = 0; v < 10; v++) {
            is("k" + v + "00;", v <= 7 ? 1 : -2000);
            is("k0" + v + "0;", 1);
            is("k00" + v + ";", v <= 4 || v == 9 ? 1 : -2000);
            is("z0;k7" + v + "5;", -2003);
        }
        BeansOnTheOtherSide x = Rows.after("k790;k009;");
        Due.is("KIND 7", x.drinker(0, 0), 7);
        Due.is("FIGURE 9", x.drinker(0, 1), 9);
        Due.is("WAKER 0", x.drinker(0, 2), 0);
        Due.is("KIND 0", x.drinker(1, 0), 0);
        Due.is("FIGURE 0", x.drinker(1, 1), 0);
        Due.is("nobody", x.drinker(1, 2), 9);
        Due.is("he OWES nothing", x.count(3), 0);
    }

    private static void wakerOfDrinker() {
        String six = "k009;k009;k009;k009;k009;k009;";
        for (int v = 0; v < 10; v++) {
            is(six + "w" + v + "0;", v <= 5 ? 7 : -2030);
            is(six + "k009;w" + v + "0;", v <= 6 ? 8 : -2035);
            is("k000;w0" + v + ";", v <= 4 || v == 9 ? 2 : -2005);
            is("w" + v + "0;", -2000);
        }
        BeansOnTheOtherSide x = Rows.after(six + "w54;w03;");
        Due.is("the last has 4", x.drinker(5, 2), 4);
        Due.is("the first has 3", x.drinker(0, 2), 3);
        Due.is("nobody again", Rows.treaty(x, "w59;"), 1);
        Due.is("the last has nobody", x.drinker(5, 2), 9);
    }

    private static void tiredOfWaker() {
        for (int v = 0; v < 10; v++) {
            is("t" + v + "00;", v <= 4 ? 1 : -2000);
            is("t" + v + "99;", v <= 4 ? 1 : -2000);
        }
        BeansOnTheOtherSide x = Rows.after("t499;t060;");
        Due.is("99", x.waker(4, 0), 99);
        Due.is("60", x.waker(0, 0), 60);
        Due.is("both AWAKE", x.count(4), 0);
        Due.is("00", Rows.treaty(x, "t400;"), 1);
        Due.is("0", x.waker(4, 0), 0);
        Due.is("as told last", Rows.treaty(x, "t309;t390;"), 2);
        Due.is("90", x.waker(3, 0), 90);
    }

    private static void asleepOrAwake() {
        for (int v = 0; v < 10; v++) {
            is("z" + v + ";", v <= 4 ? 1 : -2000);
        }
        Due.is("0 and 4", Rows.after("z0;z4;").count(4), 17);
        Due.is("AWAKE, if he is ASLEEP", Rows.after("z0;z4;z0;").count(4), 16);
        Due.is("and ASLEEP once more", Rows.after("z0;z4;z0;z0;").count(4), 17);
    }

    private static void bagsOfThreeDigits() {
        int[] bags = {0, 1, 9, 10, 99, 100, 998, 999};
        for (int b : bags) {
            BeansOnTheOtherSide x = Rows.after("b" + b / 100 + b / 10 % 10 + b % 10 + ";");
            Due.is("BAGS " + b, x.count(2), b);
        }
    }

    private static void owedOfDrinker() {
        for (int v = 0; v < 10; v++) {
            is("o" + v + "00;", -2000);
            is("k009;o" + v + "01;", v == 0 ? 2 : -2005);
            is("k009;k009;k009;k009;k009;k009;k009;o" + v + "99;", v <= 6 ? 8 : -2035);
        }
        BeansOnTheOtherSide x = Rows.after("k009;k009;o099;o100;");
        Due.is("99", x.drinker(0, 3), 99);
        Due.is("00", x.drinker(1, 3), 0);
        Due.is("09 is 9", Rows.treaty(x, "o009;o190;"), 2);
        Due.is("9", x.drinker(0, 3), 9);
        Due.is("90", x.drinker(1, 3), 90);
    }

    private static void daysOneToSixty() {
        for (int n = 0; n < 100; n++) {
            is("d" + n / 10 + n % 10 + ";", n >= 1 && n <= 60 ? 1 : -2000);
        }
        Due.is("01", Rows.after("d01;").count(1), 1);
        Due.is("60", Rows.after("d60;").count(1), 60);
        Due.is("one behind the other", Rows.after("d60;d01;d09;").count(1), 70);
        Due.is("BAGS are drunk", Rows.after("k009;d29;").count(2), 2);
    }

    private static void dayAbove999() {
        BeansOnTheOtherSide x = Rows.onDay(939, "z0;z0;");
        Due.is("61 to 1000", Rows.treaty(x, "d01;d60;"), -2004);
        Due.is("none goes", x.count(1), 939);
        Due.is("60 to 999", Rows.treaty(x, "d60;"), 1);
        Due.is("DAY 999", x.count(1), 999);
        Due.is("1 to 1000", Rows.treaty(x, "d01;"), -2000);
        Due.is("60 to 1059", Rows.treaty(x, "b001;d60;"), -2005);
        Due.is("BAGS as they were", x.count(2), 60);
        x = Rows.onDay(940, "z0;z0;");
        Due.is("60 to 1000", Rows.treaty(x, "d60;"), -2000);
        Due.is("59 to 999", Rows.treaty(x, "d59;"), 1);
        x = Rows.onDay(997, "z0;z0;");
        Due.is("one by one to 1000", Rows.treaty(x, "d01;d01;d01;"), -2008);
        Due.is("one by one to 999", Rows.treaty(x, "d01;d01;"), 2);
    }

    private static void eachOnWhatWasMade() {
        is("w00;k009;", -2000);
        is("k009;w00;", 2);
        is("o012;k009;", -2000);
        is("k009;w10;k009;", -2005);
        is("k009;k009;w10;", 3);
        BeansOnTheOtherSide x = Rows.after("k009;d01;w00;d01;");
        Due.is("2 OWED on the first DAY alone", x.count(3), 2);
        Due.is("TIRED on the second", x.waker(0, 0), 4);
        x = Rows.after("k009;o012;d01;o034;b007;d01;b100;");
        Due.is("34 and 2", x.count(3), 36);
        Due.is("BAGS as told last", x.count(2), 100);
        x = Rows.after("z0;d01;z0;");
        Due.is("AWAKE again, then ASLEEP", x.count(4), 1);
    }

    private static void allOrNothing() {
        BeansOnTheOtherSide x = Rows.after("k241;o007;t311;z2;b099;d02;");
        String texts = "k009;k009;d03;b001;o150;t099;z4;w09;";
        for (String last : new String[] {"z5;", "w39;", "x", "z", "k800;", "d61;", "o300;", "t900;"}) {
            Rows.tell(x, 7, Rows.BYTES, (texts + last).chars().toArray());
            String before = State.of(x);
            Due.holds("FAULT by \"" + last + "\"", x.treaty(7) <= -1000);
            Due.holds("nothing by \"" + last + "\"", before.equals(State.of(x)));
            x = Rows.after("k241;o007;t311;z2;b099;d02;");
        }
        Due.is("all of it", Rows.treaty(x, texts), 8);
        Due.is("three DRINKERS", x.count(0), 3);
        Due.is("one BAG", x.count(2), 1);
        Due.is("DAY 5", x.count(1), 5);
    }

    private static void rowStays() {
        BeansOnTheOtherSide x = Rows.after("k009;d01;");
        String text = "k009;d01;";
        for (int i = 0; i < text.length(); i++) {
            Due.is("byte " + i, x.element(7, i), text.charAt(i));
        }
        Due.is("a byte more can be put", x.put(7, 0, 'x'), 0);
        Due.is("and is a FAULT", x.treaty(7), -1000);
        Due.is("x stays", x.element(7, 0), 'x');
    }

    private static void doneTwice() {
        BeansOnTheOtherSide x = Rows.after("k009;z1;");
        Due.is("once more", x.treaty(7), 2);
        Due.is("two DRINKERS", x.count(0), 2);
        Due.is("1 is AWAKE again", x.count(4), 0);
        for (int i = 0; i < 5; i++) {
            Due.is("five times more", x.treaty(7), 2);
        }
        Due.is("no room", x.treaty(7), -2000);
        Due.is("seven", x.count(0), 7);
        Due.is("ASLEEP by the seventh", x.count(4), 2);
    }
}

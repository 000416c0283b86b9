/** SHELVES: ROWS of each SORT, from none to 100 elements; COST and FAILURES; and THE IMAGE. */
public final class EdgesOfShelvesTest {
    private static final int[] NUMBERS = {0, 1, -1, 127, 128, 129, 255, 256, 257, -127, -128, -129, -256,
        32767, 32768, 32769, 65535, 65536, 65537, -32767, -32768, -32769, -65536,
        Integer.MAX_VALUE, Integer.MIN_VALUE, Integer.MAX_VALUE - 128, Integer.MIN_VALUE + 128};

    private EdgesOfShelvesTest() {
    }

    public static void main(String[] args) {
        rowsOfNoneAndHundred();
        rowsBegunAnew();
        lowestBits();
        shelvesAreTheirOwn();
        keepNothing();
        keepInPlaceOfARow();
        takenOnesStay();
        copyOfTheEnds();
        copyOntoItself();
        copyOfNone();
        copyOfEachSort();
        costOfEachFigure();
        tossOfEachFigure();
        imageAtDay999();
        imageOfEverything();
        imageButShelves();
        imageMoreThanOnce();
        imageStays();
        countAtItsTops();
        Due.close();
    }

    private static void rowsOfNoneAndHundred() {
        for (int sort = 0; sort < 3; sort++) {
            BeansOnTheOtherSide x = new BeansOnTheOtherSide();
            Due.is("a ROW of none", x.row(0, sort, 0), 0);
            Due.is("has no place 0", x.put(0, 0, 1), -13);
            Due.is("is a ROW", x.cost(0), -12);
            Due.is("a ROW of one", x.row(1, sort, 1), 0);
            Due.is("has place 0", x.put(1, 0, 1), 0);
            Due.is("has no place 1", x.put(1, 1, 1), -13);
            Due.is("a ROW of 100", x.row(7, sort, 100), 0);
            for (int i = 0; i < 100; i++) {
                Due.is("0 at first", x.element(7, i), 0);
            }
            for (int i = 0; i < 100; i++) {
                Due.is("put", x.put(7, i, 100 - i), 0);
            }
            for (int i = 0; i < 100; i++) {
                Due.is("put there", x.element(7, i), 100 - i);
            }
            Due.is("has no place 100", x.put(7, 100, 1), -13);
            Due.is("has no place -1", x.put(7, -1, 1), -13);
        }
    }

    private static void rowsBegunAnew() {
        BeansOnTheOtherSide x = new BeansOnTheOtherSide();
        Rows.tellHundred(x, 0, Rows.INTS, 7, 9);
        Due.is("fewer", x.row(0, Rows.INTS, 3), 0);
        Due.is("0 again", x.element(0, 0), 0);
        Due.is("no place 3", x.put(0, 3, 1), -13);
        Due.is("more", x.row(0, Rows.BYTES, 100), 0);
        for (int i = 0; i < 100; i++) {
            Due.is("0 again", x.element(0, i), 0);
        }
        Due.is("of another SORT", x.put(0, 99, 200), 0);
        Due.is("a byte", x.element(0, 99), -56);
    }

    private static void lowestBits() {
        for (int v : NUMBERS) {
            BeansOnTheOtherSide x = new BeansOnTheOtherSide();
            int low = Math.floorMod(v, 256);
            Rows.tell(x, 0, Rows.BYTES, v);
            Due.is("byte of " + v, x.element(0, 0), low < 128 ? low : low - 256);
            low = Math.floorMod(v, 65536);
            Rows.tell(x, 0, Rows.SHORTS, v);
            Due.is("short of " + v, x.element(0, 0), low < 32768 ? low : low - 65536);
            Rows.tell(x, 0, Rows.INTS, v);
            Due.is("int of " + v, x.element(0, 0), v);
        }
    }

    private static void shelvesAreTheirOwn() {
        BeansOnTheOtherSide x = new BeansOnTheOtherSide();
        for (int d = 0; d < 8; d++) {
            Due.is("nothing at first", x.cost(d), -11);
            Rows.tell(x, d, d % 3, d, d + 10);
        }
        for (int d = 0; d < 8; d++) {
            Due.is("element 0 of " + d, x.element(d, 0), d);
            Due.is("element 1 of " + d, x.element(d, 1), d + 10);
        }
        x.keep(3, 0, 0, 0);
        for (int d = 0; d < 8; d++) {
            Due.is("what " + d + " holds", x.cost(d), d == 3 ? -11 : -12);
        }
    }

    private static void keepNothing() {
        int[] others = {0, -1, 8, 10, 99, Integer.MIN_VALUE, Integer.MAX_VALUE};
        for (int other : others) {
            BeansOnTheOtherSide x = new BeansOnTheOtherSide();
            x.keep(7, 1, 2, 3);
            Due.is("KIND " + other + " does not matter", x.keep(7, 0, other, 0), 0);
            Due.is("nothing", x.cost(7), -11);
            Due.is("nothing again", x.keep(7, 0, 0, other), 0);
            x.row(7, 0, 1);
            Due.is("nothing in place of a ROW", x.keep(7, 0, other, other), 0);
            Due.is("nothing is put there", x.put(7, 0, 1), -11);
        }
    }

    private static void keepInPlaceOfARow() {
        BeansOnTheOtherSide x = new BeansOnTheOtherSide();
        Rows.tell(x, 0, Rows.BYTES, 5, 6);
        Due.is("a KIND", x.keep(0, 1, 2, 9), 0);
        Due.is("costs", x.cost(0), 12);
        Due.is("no ROW", x.put(0, 0, 1), -12);
        Due.is("another KIND", x.keep(0, 1, 6, 0), 0);
        Due.is("costs 1", x.cost(0), 1);
        Due.is("a ROW", x.row(0, Rows.BYTES, 2), 0);
        Due.is("of noughts", x.element(0, 0) + x.element(0, 1), 0);
        Due.is("costs nothing", x.cost(0), -12);
    }

    private static void takenOnesStay() {
        BeansOnTheOtherSide x = new BeansOnTheOtherSide();
        x.keep(0, 1, 4, 9);
        Due.is("comes", x.comes(0, 9), 0);
        Due.is("stays", x.cost(0), 24);
        Due.is("comes again", x.comes(0, 4), 1);
        x.keep(0, 1, 0, 0);
        Due.is("he is of his KIND as he came", x.drinker(0, 0), 4);
        Due.is("and of his FIGURE", x.drinker(1, 1), 9);
        x.keep(0, 0, 0, 0);
        Due.is("he stays", x.count(0), 2);
    }

    private static void rowIs(BeansOnTheOtherSide x, int d, int... want) {
        for (int i = 0; i < want.length; i++) {
            Due.is("element(" + d + ", " + i + ")", x.element(d, i), want[i]);
        }
    }

    private static void copyOfTheEnds() {
        BeansOnTheOtherSide x = new BeansOnTheOtherSide();
        Rows.tell(x, 0, Rows.INTS, 1, 2, 3, 4);
        Rows.tell(x, 1, Rows.INTS, 9, 9, 9);
        Due.is("the last to the first", x.copy(0, 3, 1, 0, 1), 1);
        rowIs(x, 1, 4, 9, 9);
        Due.is("the first to the last", x.copy(0, 0, 1, 2, 1), 1);
        rowIs(x, 1, 4, 9, 1);
        Due.is("all that fit", x.copy(0, 1, 1, 0, 3), 3);
        rowIs(x, 1, 2, 3, 4);
        Due.is("one too many there", x.copy(0, 0, 1, 0, 4), -13);
        Due.is("one too many here", x.copy(0, 2, 1, 0, 3), -13);
        rowIs(x, 1, 2, 3, 4);
        rowIs(x, 0, 1, 2, 3, 4);
        Rows.tellHundred(x, 2, Rows.INTS, 7, 8);
        x.row(3, Rows.INTS, 100);
        Due.is("all of 100", x.copy(2, 0, 3, 0, 100), 100);
        Due.is("the last of 100", x.element(3, 99), 8);
        Due.is("the first of 100", x.element(3, 0), 7);
        Due.is("the last to the first of 100", x.copy(2, 99, 3, 0, 1), 1);
        Due.is("there", x.element(3, 0), 8);
    }

    private static void copyOntoItself() {
        BeansOnTheOtherSide x = new BeansOnTheOtherSide();
        Rows.tell(x, 0, Rows.SHORTS, 1, 2, 3, 4, 5);
        Due.is("further on", x.copy(0, 0, 0, 1, 4), 4);
        rowIs(x, 0, 1, 1, 2, 3, 4);
        Due.is("further back", x.copy(0, 1, 0, 0, 4), 4);
        rowIs(x, 0, 1, 2, 3, 4, 4);
        Due.is("two further on", x.copy(0, 0, 0, 2, 3), 3);
        rowIs(x, 0, 1, 2, 1, 2, 3);
        Due.is("where it is", x.copy(0, 0, 0, 0, 5), 5);
        rowIs(x, 0, 1, 2, 1, 2, 3);
    }

    private static void copyOfNone() {
        BeansOnTheOtherSide x = new BeansOnTheOtherSide();
        Rows.tell(x, 0, Rows.BYTES, 1, 2);
        Rows.tell(x, 1, Rows.BYTES, 3);
        Due.is("none", x.copy(0, 0, 1, 0, 0), 0);
        Due.is("none from the end", x.copy(0, 2, 1, 1, 0), 0);
        Due.is("none beyond the end", x.copy(0, 3, 1, 0, 0), -13);
        Due.is("none beyond the end there", x.copy(0, 0, 1, 2, 0), -13);
        rowIs(x, 0, 1, 2);
        rowIs(x, 1, 3);
        x.row(2, Rows.BYTES, 0);
        Due.is("none to an empty ROW", x.copy(0, 0, 2, 0, 0), 0);
        Due.is("one to an empty ROW", x.copy(0, 0, 2, 0, 1), -13);
    }

    private static void copyOfEachSort() {
        BeansOnTheOtherSide x = new BeansOnTheOtherSide();
        for (int sort = 0; sort < 3; sort++) {
            Rows.tell(x, sort, sort, 1, 2);
            x.row(sort + 3, sort, 2);
        }
        for (int d = 0; d < 3; d++) {
            for (int e = 3; e < 6; e++) {
                Due.is("SORT " + d + " to SORT " + (e - 3), x.copy(d, 0, e, 0, 2), d + 3 == e ? 2 : -12);
            }
        }
        for (int e = 3; e < 6; e++) {
            rowIs(x, e, 1, 2);
        }
    }

    private static void costOfEachFigure() {
        BeansOnTheOtherSide x = new BeansOnTheOtherSide();
        for (int figure = 0; figure < 10; figure++) {
            int[] due = {3, 4, 3 + figure, 2, 6 + 2 * figure, 4, 1 + 2 * figure, 1};
            for (int kind = 0; kind < 8; kind++) {
                x.keep(5, 1, kind, figure);
                Due.is("COST of KIND " + kind + " of " + figure, x.cost(5), due[kind]);
            }
        }
    }

    private static void tossOfEachFigure() {
        BeansOnTheOtherSide x = new BeansOnTheOtherSide();
        for (int figure = 0; figure < 10; figure++) {
            int smuggler = 201 + 2 * figure;
            int[] due = {figure, figure, 100 + figure, -15, 100 + figure, figure, smuggler, -15};
            for (int kind = 0; kind < 8; kind++) {
                x.keep(5, 1, kind, figure);
                Due.is("FAILURE of KIND " + kind + " of " + figure, x.toss(5), figure == 0 ? -15 : due[kind]);
            }
        }
    }

    private static void imageAtDay999() {
        BeansOnTheOtherSide x = Rows.onDay(999, "k009;");
        Due.is("DAY 999", x.image(), 999);
        Due.is("RESTORED", x.restore(), 999);
        x = Rows.onDay(0, "k009;");
        Due.is("DAY 0", x.image(), 0);
        x.days(60);
        Due.is("DAY 60", x.count(1), 60);
        Due.is("DAY 0 again", x.restore(), 0);
        Due.is("and 999 DAYS ahead", x.days(60), 60);
    }

    private static void imageOfEverything() {
        BeansOnTheOtherSide x = Rows.after("k243;k500;o007;o112;t011;z2;t299;b033;d03;");
        String before = State.of(x);
        x.image();
        Due.holds("nothing changes by it", before.equals(State.of(x)));
        int[] told = {'k', '0', '0', '0', ';', 'o', '0', '9', '9', ';', 'd', '6', '0', ';'};
        Rows.tell(x, 6, Rows.BYTES, told);
        x.treaty(6);
        x.wakes(1, 4);
        x.tires(3, 77);
        x.sleeps(0);
        x.bags(1);
        x.keep(6, 0, 0, 0);
        Due.is("three DRINKERS", x.count(0), 3);
        Due.is("DAY 3", x.restore(), 3);
        Due.holds("all is as it was", before.equals(State.of(x)));
        Due.is("the third has not come", x.drinker(2, 0), -1);
    }

    private static void imageButShelves() {
        BeansOnTheOtherSide x = new BeansOnTheOtherSide();
        x.keep(0, 1, 2, 5);
        Rows.tell(x, 1, Rows.BYTES, 5);
        x.image();
        x.keep(0, 0, 0, 0);
        x.put(1, 0, 6);
        x.keep(2, 1, 0, 0);
        x.restore();
        Due.is("nothing stays nothing", x.cost(0), -11);
        Due.is("6 stays", x.element(1, 0), 6);
        Due.is("a KIND stays", x.cost(2), 3);
    }

    private static void imageMoreThanOnce() {
        BeansOnTheOtherSide x = new BeansOnTheOtherSide();
        x.bags(10);
        x.image();
        x.bags(20);
        x.image();
        x.bags(30);
        x.restore();
        Due.is("the last one", x.count(2), 20);
        x.bags(40);
        x.restore();
        Due.is("RESTORED twice", x.count(2), 20);
        x.restore();
        Due.is("and at once again", x.count(2), 20);
    }

    private static void imageStays() {
        BeansOnTheOtherSide x = Rows.after("k009;");
        x.image();
        x.restore();
        x.days(5);
        Rows.treaty(x, "k009;o050;z1;t101;");
        Due.is("DAY 0", x.restore(), 0);
        Due.is("60 BAGS", x.count(2), 60);
        Due.is("nothing OWED", x.count(3), 0);
        Due.is("nobody ASLEEP", x.count(4), 0);
        Due.is("nobody TIRED", x.count(5), 0);
        Due.is("one DRINKER", x.count(0), 1);
        x.keep(0, 1, 0, 0);
        Due.is("the next is the second", x.comes(0, 9), 1);
        Due.is("who OWES nothing", x.drinker(1, 3), 0);
    }

    private static void countAtItsTops() {
        BeansOnTheOtherSide x = Rows.onDay(999, "k009;k009;k009;k009;k009;k009;k009;b999;"
            + "t099;t199;t299;t399;t499;");
        Rows.treaty(x, "z0;z1;z2;z3;z4;o099;o699;");
        int[] tops = {7, 999, 999, 198, 31, 495};
        for (int what = 0; what < 6; what++) {
            Due.is("count(" + what + ")", x.count(what), tops[what]);
        }
        for (int what : new int[] {-1, 6, 7, Integer.MIN_VALUE, Integer.MAX_VALUE}) {
            Due.is("count(" + what + ")", x.count(what), -1);
        }
    }
}

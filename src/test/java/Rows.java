/** Puts texts and numbers on shelves, as the tests need them. */
final class Rows {
    static final int BYTES = 0;
    static final int SHORTS = 1;
    static final int INTS = 2;

    private Rows() {
    }

    static void tell(BeansOnTheOtherSide x, int shelf, int sort, int... numbers) {
        Due.is("row(" + shelf + ")", x.row(shelf, sort, numbers.length), 0);
        for (int i = 0; i < numbers.length; i++) {
            Due.is("put(" + shelf + ", " + i + ")", x.put(shelf, i, numbers[i]), 0);
        }
    }

    /** A ROW of 100 elements which are all alike but the last. */
    static void tellHundred(BeansOnTheOtherSide x, int shelf, int sort, int all, int last) {
        int[] numbers = new int[100];
        java.util.Arrays.fill(numbers, all);
        numbers[99] = last;
        tell(x, shelf, sort, numbers);
    }

    static int treaty(BeansOnTheOtherSide x, String text) {
        tell(x, 7, BYTES, text.chars().toArray());
        return x.treaty(7);
    }

    /** A new object on which a treaty has been done. */
    static BeansOnTheOtherSide after(String text) {
        BeansOnTheOtherSide x = new BeansOnTheOtherSide();
        Due.holds("treaty \"" + text + "\"", treaty(x, text) > 0);
        return x;
    }

    /** A new object on which DAYS have gone by, and then a treaty has been done. */
    static BeansOnTheOtherSide onDay(int day, String text) {
        BeansOnTheOtherSide x = new BeansOnTheOtherSide();
        for (int gone = 0; gone < day; gone += 60) {
            x.days(Math.min(60, day - gone));
        }
        Due.is("DAY", x.count(1), day);
        Due.holds("treaty \"" + text + "\"", treaty(x, text) > 0);
        return x;
    }
}

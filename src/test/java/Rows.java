/** Puts texts and numbers on shelves, as the tests need them. */
final class Rows {
    static final int BYTES = 0;
    static final int SHORTS = 1;
    static final int INTS = 2;

    private Rows() {
    }

    static void tell(BeansOnTheOtherSide x, int shelf, int sort, int... numbers) {
        Due.is("row(" + shelf + ")", x.row(shelf, sort, numbers.length), 0);
        for (int i = 0; i < numbers.length; i++) {
            Due.is("put(" + shelf + ", " + i + ")", x.put(shelf, i, numbers[i]), 0);
        }
    }

    static int treaty(BeansOnTheOtherSide x, String text) {
        int[] bytes = new int[text.length()];
        for (int i = 0; i < bytes.length; i++) {
            bytes[i] = text.charAt(i);
        }
        tell(x, 7, BYTES, bytes);
        return x.treaty(7);
    }

    /** A new object on which a treaty has been done. */
    static BeansOnTheOtherSide after(String text) {
        BeansOnTheOtherSide x = new BeansOnTheOtherSide();
        Due.holds("treaty \"" + text + "\"", treaty(x, text) > 0);
        return x;
    }
}

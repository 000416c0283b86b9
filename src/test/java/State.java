/** All that can be seen of an object by calls that change nothing. */
final class State {
    private State() {
    }

    static String of(BeansOnTheOtherSide x) {
        StringBuilder seen = new StringBuilder();
        for (int what = 0; what < 6; what++) {
            seen.append(x.count(what)).append(' ');
        }
        for (int k = 0; k < x.count(0); k++) {
            for (int what = 0; what < 4; what++) {
                seen.append(x.drinker(k, what)).append(' ');
            }
        }
        for (int w = 0; w < 5; w++) {
            seen.append(x.waker(w, 0)).append(' ').append(x.waker(w, 1)).append(' ');
        }
        for (int d = 0; d < 8; d++) {
            seen.append("| ").append(x.cost(d)).append(' ').append(x.toss(d)).append(' ');
            if (x.cost(d) == -12) {
                tellRow(x, d, seen);
            }
        }
        return seen.toString();
    }

    private static void tellRow(BeansOnTheOtherSide x, int d, StringBuilder seen) {
        for (int i = 0; i <= 100; i++) {
            try {
                seen.append(x.element(d, i)).append(' ');
            } catch (IllegalStateException end) {
                return;
            }
        }
    }
}

import java.lang.reflect.InvocationTargetException;
import java.lang.reflect.Method;
import java.lang.reflect.Modifier;
import java.util.ArrayList;
import java.util.Arrays;
import java.util.Comparator;
import java.util.List;
import java.util.Random;

/** Long runs of drawn calls, right and wrong, compared with the plain model. */
public final class ModelTest {
    private static final int RUNS = 1200;
    private static final int CALLS = 450;

    /** A letter an argument: see argument(). */
    private static final String[][] ARGUMENTS = {
        {"treaty", "s"}, {"drinker", "k5"}, {"waker", "w3"}, {"comes", "sw"}, {"wakes", "kw"},
        {"tires", "wT"}, {"sleeps", "w"}, {"bags", "B"}, {"days", "F"}, {"owesThen", "kF"},
        {"tiredThen", "wF"}, {"then", "F3"}, {"firstAsleep", "w"}, {"out", ""},
        {"bestWaker", "kF2"}, {"match", "k"}, {"milk", "N"}, {"fewest", "N"}, {"store", "F"},
        {"heaviest", "4"}, {"rest", "N2"}, {"whatIs", "sk2"}, {"shed", "s3"}, {"two", "kkN"},
        {"falls", "ntv2"}, {"mean", "2"}, {"forged", "s"}, {"judge", "s"}, {"years", "yz2"},
        {"image", ""}, {"restore", ""}, {"count", "6"}, {"keep", "s2KG"}, {"row", "s3L"},
        {"put", "siz"}, {"element", "si"}, {"copy", "sisii"}, {"cost", "s"}, {"toss", "s"},
    };

    private final Random random;
    private final BeansOnTheOtherSide real = new BeansOnTheOtherSide();
    private final PlainModel plain = new PlainModel();
    private final List<String> calls = new ArrayList<>();
    private int wrong = 0;

    private ModelTest(long seed) {
        random = new Random(seed);
    }

    public static void main(String[] args) throws Exception {
        int runs = args.length > 0 ? Integer.parseInt(args[0]) : RUNS;
        Due.is("calls that are compared", ARGUMENTS.length, faceMethods().length);
        for (int run = 0; run < runs; run++) {
            ModelTest test = new ModelTest(1000 + run);
            test.runCalls();
            Due.is("run " + run, test.wrong, 0);
        }
        Due.close();
    }

    private static Method[] faceMethods() {
        return Arrays.stream(BeansOnTheOtherSide.class.getDeclaredMethods())
            .filter(m -> Modifier.isPublic(m.getModifiers()))
            .sorted(Comparator.comparing(Method::getName)).toArray(Method[]::new);
    }

    private void runCalls() throws Exception {
        int many = random.nextInt(7);
        for (int i = 0; i < many; i++) {
            call("keep", 3, 1, random.nextInt(8), random.nextInt(10));
            call("comes", 3, random.nextInt(4) == 0 ? 9 : random.nextInt(2 + random.nextInt(4)));
        }
        call("bags", random.nextInt(3) == 0 ? random.nextInt(60) : random.nextInt(1000));
        while (calls.size() < CALLS && wrong == 0) {
            int dice = random.nextInt(40);
            if (dice == 0) {
                treatyText();
            } else if (dice == 1) {
                tellOwed();
            } else if (dice == 2) {
                tellBags();
            } else if (dice == 3) {
                tellFolio();
            } else if (dice == 4) {
                copyWhole();
            } else {
                String[] which = ARGUMENTS[random.nextInt(ARGUMENTS.length)];
                if (which[0].equals("days") && random.nextInt(3) != 0) {
                    call("days", 1 + random.nextInt(4));
                } else if (!which[0].equals("restore") || random.nextInt(3) == 0) {
                    call(which[0], arguments(which[1]));
                }
            }
        }
    }

    private int[] arguments(String letters) {
        int[] drawn = new int[letters.length()];
        for (int i = 0; i < drawn.length; i++) {
            drawn[i] = random.nextInt(60) == 0 ? extreme() : argument(letters.charAt(i));
        }
        return drawn;
    }

    private int extreme() {
        int[] all = {Integer.MIN_VALUE, Integer.MAX_VALUE, -1, Integer.MIN_VALUE + 1, 1 << 30, 100, 101,
            -2, 1000, 999, 65536, 9, 5, 8, 60, 61, 31, 0};
        return all[random.nextInt(all.length)];
    }

    /** Mostly a number that is in range, now and then the one beyond either end. */
    private int from(int least, int greatest) {
        return random.nextInt(25) == 0 ? (random.nextBoolean() ? least - 1 : greatest + 1)
            : least + random.nextInt(greatest - least + 1);
    }

    private int argument(char letter) {
        switch (letter) {
            case 's':
                return from(0, 7);
            case 'k':
                return from(0, random.nextInt(4) == 0 ? 6 : Math.max(0, plain.count(0) - 1));
            case 'w':
                return random.nextInt(6) == 0 ? 9 : from(0, 4);
            case 'T':
                return from(0, 99);
            case 'B':
                return random.nextBoolean() ? from(0, 60) : from(0, 999);
            case 'F':
                return from(0, 60);
            case 'N':
                return from(0, 30);
            case 'K':
                return from(0, 7);
            case 'G':
                return from(0, 9);
            case 'n':
                return from(0, 7);
            case 't':
                return from(2, 20);
            case 'v':
                return random.nextInt(4) == 0 ? from(0, 999)
                    : Math.min(999, plain.count(3) + random.nextInt(60));
            case 'y':
                return from(1, 20);
            case 'z':
                return random.nextBoolean() ? random.nextInt() : random.nextInt(400) - 200;
            case 'L':
                return random.nextBoolean() ? from(0, 100) : from(0, 5);
            case 'i':
                return random.nextInt(3) == 0 ? from(0, 100) : from(0, 5);
            default:
                return from(0, letter - '0' - 1);
        }
    }

    private void rowOf(int shelf, int sort, int[] numbers) throws Exception {
        call("row", shelf, sort, numbers.length);
        for (int i = 0; i < numbers.length; i++) {
            call("put", shelf, i, numbers[i]);
        }
    }

    private void treatyText() throws Exception {
        StringBuilder text = new StringBuilder();
        int many = random.nextInt(7);
        for (int i = 0; i < many; i++) {
            char letter = "kwtzbod".charAt(random.nextInt(7));
            text.append(letter);
            int digits = letter == 'z' ? 1 : letter == 'w' || letter == 'd' ? 2 : 3;
            for (int j = 0; j < digits; j++) {
                boolean small = random.nextInt(5) != 0;
                text.append((char) ('0' + random.nextInt(small ? 5 : 10)));
            }
            text.append(';');
        }
        int[] bytes = text.chars().toArray();
        if (bytes.length > 0 && random.nextInt(4) == 0) {
            bytes[random.nextInt(bytes.length)] = random.nextBoolean() ? random.nextInt(256) : ';';
        }
        if (bytes.length > 0 && random.nextInt(6) == 0) {
            bytes = Arrays.copyOf(bytes, random.nextInt(bytes.length));
        }
        rowOf(random.nextInt(8), 0, bytes);
        call("treaty", lastShelf());
    }

    private int lastShelf() {
        for (int i = calls.size() - 1; i >= 0; i--) {
            if (calls.get(i).startsWith("row(")) {
                return calls.get(i).charAt(4) - '0';
            }
        }
        return 0;
    }

    private int disturb(int told, int least) {
        int dice = random.nextInt(14);
        return dice == 0 ? told + random.nextInt(3) - 1 : dice <= 3 ? least : told;
    }

    private static int leastOf(int sort) {
        return sort == 0 ? -128 : sort == 1 ? -32768 : Integer.MIN_VALUE;
    }

    /** What a DRINKER will owe, sometimes as it would be if he were of another KIND. */
    private void tellOwed() throws Exception {
        if (plain.count(0) == 0) {
            return;
        }
        int k = random.nextInt(plain.count(0));
        int sort = random.nextInt(3);
        int[] told = new int[random.nextInt(13)];
        for (int n = 0; n < told.length; n++) {
            told[n] = disturb(plain.owesThen(k, n), leastOf(sort));
        }
        rowOf(random.nextInt(8), sort, told);
        call("whatIs", lastShelf(), k, 0);
        call("whatIs", lastShelf(), k, 1);
    }

    private void tellBags() throws Exception {
        int sort = random.nextInt(3);
        int[] told = new int[random.nextInt(13)];
        int first = random.nextInt(2);
        for (int n = 0; n < told.length; n++) {
            told[n] = disturb(plain.then(n + first, 0), leastOf(sort));
        }
        rowOf(random.nextInt(8), sort, told);
        call("judge", lastShelf());
        for (int what = 0; what < 3; what++) {
            call("shed", lastShelf(), what);
        }
    }

    private void tellFolio() throws Exception {
        int sort = random.nextInt(3);
        int[] told = new int[random.nextInt(plain.count(0) + 2)];
        for (int k = 0; k < told.length; k++) {
            int owes = plain.drinker(k, 3);
            told[k] = random.nextInt(9) == 0 ? owes + 1 : owes;
        }
        rowOf(random.nextInt(8), sort, told);
        call("forged", lastShelf());
    }

    private void copyWhole() throws Exception {
        int n = random.nextInt(5);
        rowOf(1, 1, random.ints(n, -3, 4).toArray());
        call("row", 2, 1, n + random.nextInt(2));
        call("copy", 1, 0, 2, 0, n);
        for (int i = 0; i < n; i++) {
            call("element", 2, i);
        }
    }

    private void call(String name, int... arguments) throws Exception {
        String text = name + Arrays.toString(arguments).replace('[', '(').replace(']', ')');
        calls.add(text);
        String got = answer(real, name, arguments);
        String want = answer(plain, name, arguments);
        if (!got.equals(want) && wrong++ == 0) {
            System.out.println(calls);
            System.out.println(text + " answered " + got + ", by the plain model " + want);
        }
    }

    private static String answer(Object on, String name, int[] arguments) throws Exception {
        Class<?>[] types = new Class<?>[arguments.length];
        Object[] values = new Object[arguments.length];
        for (int i = 0; i < arguments.length; i++) {
            types[i] = int.class;
            values[i] = arguments[i];
        }
        try {
            return String.valueOf(on.getClass().getMethod(name, types).invoke(on, values));
        } catch (InvocationTargetException e) {
            return "throws." + e.getCause().getClass().getName();
        }
    }
}

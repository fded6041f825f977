import java.lang.reflect.Method;
import java.lang.reflect.Modifier;
import java.util.List;
import java.util.NoSuchElementException;
import java.util.Random;

/**
 * Whatever the numbers and the state: no call throws but value, row and of, and these
 * NoSuchElementException alone; and Model answers the same.
 */
public final class ExtremeTest {
    private static final int[] NUMBERS = {Integer.MIN_VALUE, Integer.MIN_VALUE + 1, -1000000001, -65536, -2, -1, 0,
        1, 2, 3, 5, 6, 7, 30, 31, 32, 59, 60, 61, 100, 127, 1428, 1429, 9999, 10000, 1000000, 1000000000,
        Integer.MAX_VALUE - 1, Integer.MAX_VALUE};
    private static final List<String> THROWING = List.of("value", "row", "of");
    private static final int RUNS = 150;
    private static final int CALLS = 512;

    public static void main(String[] args) {
        Random random = new Random(11);
        for (int run = 0; run < RUNS; run++) {
            play(random, run % 5);
        }
        Check.close("ExtremeTest");
    }

    private static void play(Random random, int sort) {
        FirmTown x = new FirmTown();
        Model m = new Model();
        int calls = prepare(x, m, sort);
        Method[] face = FirmTown.class.getDeclaredMethods();
        while (calls < CALLS) {
            Method method = face[random.nextInt(face.length)];
            if (Modifier.isPublic(method.getModifiers())) {
                int[] numbers = new int[method.getParameterCount()];
                for (int i = 0; i < numbers.length; i++) {
                    numbers[i] = NUMBERS[random.nextInt(NUMBERS.length)];
                }
                same(x, m, method.getName(), numbers);
                calls++;
            }
        }
    }

    /** Of sort 0 a new town; of others one with persons, houses, rules and days: how many calls. */
    private static int prepare(FirmTown x, Model m, int sort) {
        int calls = 0;
        for (int i = 0; sort > 0 && i < 3 * sort; i++) {
            calls += same(x, m, "person", 1 + i, 30);
            calls += same(x, m, "house", 1 + i % 9, i % 6);
            calls += same(x, m, "post", i, 1 + i);
            calls += same(x, m, "asks", i);
            calls += same(x, m, "bid", i, i / 2, 100000);
            calls += same(x, m, "hours", i, 0, 84);
            calls += same(x, m, "give", sort > 2 ? i : -1);
        }
        if (sort > 0) {
            // "fine a 9;keep;rent rooms*arrears*99;"
            calls += same(x, m, "feed", 0x66696e65, 0x20612039, 0x3b6b6565, 0x703b7265, 0x6e742072);
            calls += same(x, m, "feed", 0x6f6f6d73, 0x2a617272, 0x65617273, 0x2a39393b, 0x20202020);
            calls += same(x, m, "text", 0);
        }
        for (int i = 0; sort == 4 && i < 167; i++) {
            calls += same(x, m, "days", i == 166 ? 39 : 60);
        }
        return calls;
    }

    private static int same(FirmTown x, Model m, String name, int... numbers) {
        long due = Edge.answer(n -> Calls.make(m, name, numbers), 0);
        try {
            Check.due(name, Calls.make(x, name, numbers), due);
        } catch (NoSuchElementException e) {
            Check.due(name + " throws", THROWING.contains(name) ? Edge.THREW : 0, due);
        }
        return 1;
    }
}

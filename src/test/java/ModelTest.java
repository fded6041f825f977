import java.nio.charset.StandardCharsets;
import java.util.NoSuchElementException;
import java.util.Random;

/** Random runs, each call made to FirmTown and to Model: their answers must be alike. */
public final class ModelTest {
    private static final int RUNS = 400;
    private static final int CALLS = 512;
    private static final long THREW = Long.MIN_VALUE;

    private final Random random;
    private final FirmTown x = new FirmTown();
    private final Model m = new Model();
    private int calls = 0;

    private ModelTest(int seed) {
        random = new Random(seed);
    }

    public static void main(String[] args) {
        int runs = args.length > 0 ? Integer.parseInt(args[0]) : RUNS;
        for (int seed = 0; seed < runs; seed++) {
            new ModelTest(seed).play();
        }
        Check.close("ModelTest");
    }

    private void play() {
        int many = 1 + random.nextInt(random.nextInt(10) == 0 ? 60 : 8);
        for (int i = 0; i < many; i++) {
            same("person", 1 + random.nextInt(6), 10 + random.nextInt(81));
        }
        for (int i = 1 + random.nextInt(7); i > 0; i--) {
            same("house", 1 + random.nextInt(4), random.nextInt(6));
        }
        for (int i = 0; i < many; i++) {
            same("post", i, 1 + random.nextInt(20));
        }
        while (calls < CALLS - 70) {
            step();
        }
        while (calls < CALLS) {
            ask();
        }
    }

    private int person() {
        return random.nextInt(40) == 0 ? random.nextInt(80) - 5 : random.nextInt(Math.max(1, m.count(0)));
    }

    private int house() {
        return random.nextInt(40) == 0 ? random.nextInt(40) - 5 : random.nextInt(Math.max(1, m.count(1)));
    }

    private int near(int most) {
        return random.nextInt(20) == 0 ? random.nextInt(most + 3) - 1 : random.nextInt(most + 1);
    }

    private int bits() {
        int bits = 0;
        for (int i = random.nextInt(4); i >= 0; i--) {
            bits |= 1 << house();
        }
        return bits;
    }

    private int day() {
        return random.nextInt(3) == 0 ? near(9999) : Math.max(0, m.count(2) + random.nextInt(20) - 10);
    }

    private void step() {
        switch (random.nextInt(26)) {
            case 0, 1 -> tell();
            case 2, 3, 4 -> same("hours", person(), m.count(2) / 7 + random.nextInt(2), near(84));
            case 5, 6, 7 -> same("days", random.nextInt(4) == 0 ? near(14) : random.nextInt(5));
            case 8, 9 -> same("asks", person());
            case 10, 11 -> same("give", house());
            case 12 -> same("post", person(), near(200));
            case 13 -> same("ends", person());
            case 14 -> same("undone", person());
            case 15 -> same("club", person(), random.nextInt(60));
            case 16 -> same("good", near(5), 1 + random.nextInt(60), 1 + random.nextInt(60), near(99));
            case 17 -> same("buys", person(), near(5), 1 + random.nextInt(9));
            case 18 -> same("draws", person());
            case 19 -> same("seen", person(), near(Math.max(0, m.count(4) - 1)));
            case 20 -> same("fines", near(Math.max(0, m.count(6) - 1)));
            case 21 -> same("flaw", house(), near(9));
            case 22 -> same("mends", near(Math.max(0, m.count(7) - 1)));
            case 23 -> same("bid", person(), house(), random.nextInt(6));
            case 24 -> rare();
            default -> ask();
        }
    }

    private void rare() {
        switch (random.nextInt(6)) {
            case 0 -> same("sold", house(), person());
            case 1 -> same("holds", near(100));
            case 2 -> same("person", near(12), near(90));
            case 3 -> same("house", near(9), near(5));
            case 4 -> same("bid", person(), house(), near(100000));
            default -> same("end", near(40));
        }
    }

    private void ask() {
        int known = random.nextInt(4) == 0 ? near(m.count(2)) : m.count(2);
        switch (random.nextInt(19)) {
            case 0 -> same("value", near(5), person(), day(), known);
            case 1 -> same("why", near(5), person(), day(), known);
            case 2 -> same("quarrel", near(5), person(), day(), known);
            case 3 -> same("fineOf", near(Math.max(0, m.count(4) - 1)), person(), day(), known);
            case 4 -> same("row", near(Math.max(0, m.count(12) - 1)), person(), near(6));
            case 5 -> same("run", near(1));
            case 6 -> same("passed", person());
            case 7 -> same("unlike", near(Math.max(0, m.count(6) - 1)));
            case 8 -> same("waits", house(), near(1));
            case 9 -> same("lasts", person(), near(9999));
            case 10 -> same("lasting", near(12), near(9999));
            case 11, 12 -> same("other", near(Math.max(0, m.count(3) - 1)), person());
            case 13 -> same("sells", bits());
            case 14 -> same("buyer", bits(), house());
            case 15, 16 -> same("of", person(), near(13));
            case 17 -> same("houseOf", house(), near(3));
            default -> same("count", near(12));
        }
    }

    private void tell() {
        byte[] text = new TextMaker(random).text().getBytes(StandardCharsets.ISO_8859_1);
        same("end", 0);
        for (int i = 0; i < text.length && i < 300; i += 20) {
            int[] fed = new int[5];
            for (int j = 0; j < 20; j++) {
                fed[j / 4] = fed[j / 4] << 8 | (i + j < text.length ? text[i + j] & 255 : ' ');
            }
            same("feed", fed);
        }
        same("end", text.length);
        same("text", Math.max(0, m.count(2) + random.nextInt(16) - 9));
        same("place");
    }

    private void same(String name, int... a) {
        if (calls >= CALLS) {
            return;
        }
        calls++;
        StringBuilder call = new StringBuilder(name).append('(');
        for (int n : a) {
            call.append(n).append(' ');
        }
        Check.due(call.append(')').toString(), ofTown(name, a), ofModel(name, a));
    }

    private long ofTown(String name, int[] a) {
        try {
            return Calls.make(x, name, a);
        } catch (NoSuchElementException e) {
            return THREW;
        }
    }

    private long ofModel(String name, int[] a) {
        try {
            return Calls.make(m, name, a);
        } catch (NoSuchElementException e) {
            return THREW;
        }
    }
}

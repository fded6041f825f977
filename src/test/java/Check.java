import java.nio.charset.StandardCharsets;
import java.util.NoSuchElementException;

/** What the tests share: a count of wrong answers, and a way to put a text on the TAPE. */
final class Check {
    private static final int FED_AT_ONCE = 20;

    private static int asked = 0;
    private static int wrong = 0;

    private Check() {
    }

    static void due(String call, long got, long want) {
        asked++;
        if (got != want) {
            wrong++;
            System.out.println(call + " answered " + got + ", due is " + want);
        }
    }

    static void due(String call, boolean got, boolean want) {
        due(call, got ? 1 : 0, want ? 1 : 0);
    }

    static void dueNoValue(FirmTown x, int kind, int person, int day, int known) {
        try {
            due("value without a throw", x.value(kind, person, day, known), Long.MIN_VALUE);
        } catch (NoSuchElementException e) {
            asked++;
        }
    }

    static void dueNoRow(FirmTown x, int week, int person, int what) {
        try {
            due("row without a throw", x.row(week, person, what), Long.MIN_VALUE);
        } catch (NoSuchElementException e) {
            asked++;
        }
    }

    static void dueNoOf(FirmTown x, int person, int what) {
        try {
            due("of without a throw", x.of(person, what), Long.MIN_VALUE);
        } catch (NoSuchElementException e) {
            asked++;
        }
    }

    /** Puts a text on the empty TAPE. */
    static void feed(FirmTown x, String text) {
        byte[] bytes = text.getBytes(StandardCharsets.ISO_8859_1);
        int whole = (bytes.length + FED_AT_ONCE - 1) / FED_AT_ONCE * FED_AT_ONCE;
        for (int i = 0; i < whole; i += FED_AT_ONCE) {
            x.feed(four(bytes, i), four(bytes, i + 4), four(bytes, i + 8),
                    four(bytes, i + 12), four(bytes, i + 16));
        }
        x.end(bytes.length);
    }

    private static int four(byte[] bytes, int from) {
        int number = 0;
        for (int i = from; i < from + 4; i++) {
            number = number << 8 | (i < bytes.length ? bytes[i] & 255 : 0);
        }
        return number;
    }

    /** Tells a TEXT from a DAY on: what text() answers. */
    static int tell(FirmTown x, int from, String text) {
        feed(x, text);
        return x.text(from);
    }

    static void close(String name) {
        System.out.println(name + ": " + asked + " answers, " + wrong + " wrong");
        if (wrong > 0 || asked == 0) {
            System.exit(1);
        }
    }
}

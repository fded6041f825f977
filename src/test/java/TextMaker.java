import java.util.Random;

/** Makes random TEXTS, of which some have a FAULT. */
final class TextMaker {
    private static final String[] KINDS = {"rent", "most", "leave", "keep", "rank", "credit", "fine"};
    private static final String[] WORDS = {"rooms", "size", "heads", "age", "pay", "weeks", "day",
        "saved", "debt", "arrears"};
    private static final String[] NAMES = {"a", "late", "drunk", "abcdefgh", "if", "rent"};
    private static final String[] BITS = {"(", ")", "[", "]", ";", "not ", " or ", " and ", " if ",
        "x", "12345", "0", "+", "<", "\u00ff", "\n", "keep;", "abcdefghi ", " ", "101", "pay"};

    private final Random random;

    TextMaker(Random random) {
        this.random = random;
    }

    String text() {
        StringBuilder text = new StringBuilder();
        int statements = random.nextInt(random.nextInt(8) == 0 ? 13 : 6);
        for (int i = 0; i < statements; i++) {
            String next = statement();
            if (text.length() + next.length() <= 280) {
                text.append(next);
            }
        }
        if (random.nextInt(4) == 0) {
            spoil(text);
        }
        return text.length() > 300 ? text.substring(0, 300) : text.toString();
    }

    private void spoil(StringBuilder text) {
        int at = random.nextInt(text.length() + 1);
        switch (random.nextInt(3)) {
            case 0 -> text.setLength(at);
            case 1 -> text.insert(at, pick(BITS));
            default -> text.replace(at, Math.min(text.length(), at + 1), pick(BITS));
        }
    }

    private String pick(String[] of) {
        return of[random.nextInt(of.length)];
    }

    private String blank() {
        return random.nextInt(6) == 0 ? " \n" : "";
    }

    private String statement() {
        if (random.nextInt(8) == 0) {
            return "strike " + pick(KINDS) + blank() + ";";
        }
        String kind = pick(KINDS);
        String value = switch (kind) {
            case "most" -> " " + random.nextInt(101);
            case "leave" -> " " + random.nextInt(20);
            case "fine" -> " " + pick(NAMES) + " " + (1 + random.nextInt(30));
            case "keep" -> "";
            default -> " " + sum(2);
        };
        String cond = random.nextInt(5) < 2 ? " if " + cond(2) : "";
        return kind + value + cond + blank() + ";" + blank();
    }

    private String sum(int depth) {
        StringBuilder sum = new StringBuilder(product(depth));
        while (random.nextInt(3) == 0) {
            sum.append(random.nextBoolean() ? "+" : "-").append(blank()).append(product(depth));
        }
        return sum.toString();
    }

    private String product(int depth) {
        String product = factor(depth);
        return random.nextInt(4) == 0 ? product + "*" + product(depth) : product;
    }

    private String factor(int depth) {
        switch (random.nextInt(depth > 0 ? 5 : 4)) {
            case 0: return Integer.toString(random.nextInt(10));
            case 1: return Integer.toString(random.nextInt(random.nextInt(5) == 0 ? 10000 : 100));
            case 4: return "(" + sum(depth - 1) + ")";
            default: return pick(WORDS);
        }
    }

    private String cond(int depth) {
        String cond = both(depth);
        return random.nextInt(4) == 0 ? cond + " or " + cond(depth) : cond;
    }

    private String both(int depth) {
        String both = part(depth);
        return random.nextInt(4) == 0 ? both + " and " + both(depth) : both;
    }

    private String part(int depth) {
        switch (random.nextInt(depth > 0 ? 8 : 6)) {
            case 0: return "not " + part(depth);
            case 6: case 7: return "[" + cond(depth - 1) + "]";
            default: return sum(1) + pick(new String[] {"<", ">", "="}) + sum(1);
        }
    }
}

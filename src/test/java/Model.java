import java.util.ArrayList;
import java.util.Arrays;
import java.util.HashMap;
import java.util.LinkedHashSet;
import java.util.List;
import java.util.Map;
import java.util.NoSuchElementException;

/** The document once more, written for plainness alone: ModelTest holds FirmTown against it. */
final class Model {
    private static final List<String> KINDS =
            List.of("rent", "most", "leave", "keep", "rank", "credit", "fine");
    private static final List<String> WORDS = List.of("rooms", "size", "heads", "age", "pay",
            "weeks", "day", "saved", "debt", "arrears");
    private static final int[] WITHOUT = {0, 100, 7, 0, 0, 0, 0};

    private interface Sum {
        long of(Map<String, Long> words);
    }

    private interface Cond {
        boolean of(Map<String, Long> words);
    }

    private record Statement(int text, int number, String kind, String name, Sum value, Cond cond) {
    }

    private record Text(int number, int from, int told, List<Statement> statements) {
    }

    private static final class Fault extends Exception {
        private static final long serialVersionUID = 1L;
        final int kind;
        final int place;

        Fault(int kind, int place) {
            this.kind = kind;
            this.place = place;
        }
    }

    private static final class Person {
        int number;
        int heads;
        int age;
        int purse;
        int saved;
        int debt;
        int fines;
        int arrears;
        int club;
        int dearer;
        Integer pay;
        Integer since;
        House house;
        Integer leave;
        int[] ended;
        House left;
        int why;
    }

    private static final class House {
        int number;
        int rooms;
        int rank;
        Person let;
        Person sold;
        Map<Integer, Integer> bids = new HashMap<>();
    }

    private final List<Person> persons = new ArrayList<>();
    private final List<House> houses = new ArrayList<>();
    private final List<Person> queue = new ArrayList<>();
    private final List<Text> texts = new ArrayList<>();
    private final LinkedHashSet<String> names = new LinkedHashSet<>();
    private final List<int[]> told = new ArrayList<>();
    private final List<Map<Person, int[]>> weeks = new ArrayList<>();
    private final List<int[]> seen = new ArrayList<>();
    private final List<int[]> flaws = new ArrayList<>();
    private final int[][] goods = {{1, 1, 0}, {1, 1, 0}, {1, 1, 0}, {1, 1, 0}, {1, 1, 0}, {1, 1, 0}};
    private final List<Integer> tape = new ArrayList<>();
    private int today;
    private int box;
    private int holding = 100;
    private int faultPlace = -1;

    private static boolean out(int n, int least, int most) {
        return n < least || n > most;
    }

    private static boolean none(int n, List<?> of) {
        return n < 0 || n >= of.size();
    }

    int person(int heads, int age) {
        if (out(heads, 1, 12) || out(age, 10, 90) || persons.size() == 60) {
            return -1;
        }
        Person p = new Person();
        p.number = persons.size();
        p.heads = heads;
        p.age = age;
        persons.add(p);
        return p.number;
    }

    int house(int rooms, int rank) {
        if (out(rooms, 1, 9) || out(rank, 0, 5) || houses.size() == 30) {
            return -1;
        }
        House h = new House();
        h.number = houses.size();
        h.rooms = rooms;
        h.rank = rank;
        houses.add(h);
        return h.number;
    }

    boolean post(int person, int pay) {
        if (none(person, persons) || out(pay, 1, 200) || persons.get(person).pay != null) {
            return false;
        }
        begin(persons.get(person), pay, today);
        return true;
    }

    private void begin(Person p, int pay, int since) {
        p.pay = pay;
        p.since = since;
        p.leave = null;
    }

    boolean club(int person, int pence) {
        if (none(person, persons) || out(pence, 0, 9999)) {
            return false;
        }
        persons.get(person).club = pence;
        return true;
    }

    boolean holds(int hundredths) {
        if (out(hundredths, 0, 100)) {
            return false;
        }
        holding = hundredths;
        return true;
    }

    int feed(int a, int b, int c, int d, int e) {
        if (tape.size() + 20 > 300) {
            return -1;
        }
        for (int n : new int[] {a, b, c, d, e}) {
            tape.add(n >> 24 & 255);
            tape.add(n >> 16 & 255);
            tape.add(n >> 8 & 255);
            tape.add(n & 255);
        }
        return tape.size();
    }

    int end(int n) {
        if (n < 0 || n > tape.size()) {
            return -1;
        }
        while (tape.size() > n) {
            tape.remove(tape.size() - 1);
        }
        return n;
    }

    int text(int from) {
        if (out(from, 0, 9999) || texts.size() == 12) {
            return -1;
        }
        StringBuilder bytes = new StringBuilder();
        for (int b : tape) {
            bytes.append((char) b);
        }
        tape.clear();
        faultPlace = -1;
        try {
            Reader reader = new Reader(bytes.toString(), texts.size());
            List<Statement> statements = reader.text();
            for (Statement s : statements) {
                if (s.kind.equals("fine")) {
                    names.add(s.name);
                }
            }
            texts.add(new Text(texts.size(), from, today, statements));
            return texts.size() - 1;
        } catch (Fault f) {
            faultPlace = f.place;
            return -f.kind - 1;
        }
    }

    int place() {
        return faultPlace;
    }

    /** Reads a TEXT of words that are cut off one by one. */
    private static final class Reader {
        private final String all;
        private final int text;
        private int at = 0;
        private int open = 0;

        Reader(String all, int text) {
            this.all = all;
            this.text = text;
            blanks();
        }

        private void blanks() {
            while (at < all.length() && (all.charAt(at) == ' ' || all.charAt(at) == '\n')) {
                at++;
            }
        }

        private String ahead() {
            if (at == all.length()) {
                return "";
            }
            int to = at;
            if (all.substring(at, at + 1).matches("[a-z]")) {
                while (to < all.length() && all.substring(to, to + 1).matches("[a-z]")) {
                    to++;
                }
            } else if (all.substring(at, at + 1).matches("[0-9]")) {
                while (to < all.length() && all.substring(to, to + 1).matches("[0-9]")) {
                    to++;
                }
            } else {
                to++;
            }
            return all.substring(at, to);
        }

        private String take() {
            String token = ahead();
            at += token.length();
            blanks();
            return token;
        }

        private void must(String token) throws Fault {
            if (!ahead().equals(token)) {
                throw new Fault(1, at);
            }
            take();
        }

        List<Statement> text() throws Fault {
            List<Statement> statements = new ArrayList<>();
            while (!ahead().isEmpty()) {
                String kind = ahead();
                if (!KINDS.contains(kind) && !kind.equals("strike")) {
                    throw new Fault(1, at);
                }
                if (statements.size() == 10) {
                    throw new Fault(4, at);
                }
                take();
                statements.add(statement(kind, statements.size()));
                must(";");
            }
            return statements;
        }

        private Statement statement(String kind, int number) throws Fault {
            String name = null;
            Sum value = words -> 1;
            Cond cond = words -> true;
            if (kind.equals("strike")) {
                if (!KINDS.contains(ahead())) {
                    throw new Fault(1, at);
                }
                return new Statement(text, number, kind, take(), value, cond);
            }
            if (kind.equals("fine")) {
                if (!ahead().matches("[a-z]{1,8}")) {
                    throw new Fault(1, at);
                }
                name = take();
            }
            switch (kind) {
                case "most" -> value = number(0, 100);
                case "leave" -> value = number(0, 99);
                case "fine" -> value = number(1, 9999);
                case "keep" -> { }
                default -> value = sum();
            }
            if (ahead().equals("if")) {
                take();
                cond = cond();
            }
            return new Statement(text, number, kind, name, value, cond);
        }

        private Sum number(int least, int most) throws Fault {
            if (!ahead().matches("[0-9]{1,4}")) {
                throw new Fault(1, at);
            }
            long n = Long.parseLong(ahead());
            if (n < least || n > most) {
                throw new Fault(2, at);
            }
            take();
            return words -> n;
        }

        private Cond cond() throws Fault {
            Cond a = both();
            if (!ahead().equals("or")) {
                return a;
            }
            take();
            Cond b = cond();
            return words -> a.of(words) || b.of(words);
        }

        private Cond both() throws Fault {
            Cond a = part();
            if (!ahead().equals("and")) {
                return a;
            }
            take();
            Cond b = both();
            return words -> a.of(words) && b.of(words);
        }

        private Cond part() throws Fault {
            if (ahead().equals("not")) {
                take();
                Cond a = part();
                return words -> !a.of(words);
            }
            if (ahead().equals("[")) {
                bracket();
                Cond a = cond();
                must("]");
                open--;
                return a;
            }
            Sum a = sum();
            String relation = ahead();
            if (!relation.matches("[<>=]")) {
                throw new Fault(1, at);
            }
            take();
            Sum b = sum();
            return words -> relation.equals("<") ? a.of(words) < b.of(words)
                    : relation.equals(">") ? a.of(words) > b.of(words) : a.of(words) == b.of(words);
        }

        private void bracket() throws Fault {
            if (open == 4) {
                throw new Fault(4, at);
            }
            open++;
            take();
        }

        private static long bounded(long n) {
            return Math.max(-1000000000L, Math.min(1000000000L, n));
        }

        private Sum sum() throws Fault {
            Sum all = product();
            while (ahead().equals("+") || ahead().equals("-")) {
                int sign = take().equals("+") ? 1 : -1;
                Sum a = all;
                Sum b = product();
                all = words -> bounded(a.of(words) + sign * b.of(words));
            }
            return all;
        }

        private Sum product() throws Fault {
            Sum all = factor();
            while (ahead().equals("*")) {
                take();
                Sum a = all;
                Sum b = factor();
                all = words -> bounded(a.of(words) * b.of(words));
            }
            return all;
        }

        private Sum factor() throws Fault {
            if (ahead().equals("(")) {
                bracket();
                Sum a = sum();
                must(")");
                open--;
                return a;
            }
            if (ahead().matches("[a-z]+")) {
                if (!WORDS.contains(ahead())) {
                    throw new Fault(3, at);
                }
                String word = take();
                return words -> words.get(word);
            }
            return number(0, 9999);
        }
    }

    private static Map<String, Long> words(Person p, House h, Integer pay, int day) {
        Map<String, Long> words = new HashMap<>();
        for (String word : WORDS) {
            words.put(word, 0L);
        }
        if (h != null) {
            words.put("rooms", (long) h.rooms);
            words.put("size", (long) h.rank);
        }
        words.put("heads", (long) p.heads);
        words.put("age", (long) p.age);
        words.put("pay", pay == null ? 0L : pay);
        words.put("day", (long) day);
        return words;
    }

    private static Map<String, Long> wordsNow(Person p, int day) {
        Map<String, Long> words = words(p, p.house, p.pay, day);
        if (p.since != null && day > p.since) {
            words.put("weeks", (day - p.since) / 7L);
        }
        words.put("saved", (long) p.saved);
        words.put("debt", (long) p.debt);
        words.put("arrears", (long) p.arrears);
        return words;
    }

    private static long valueOf(Statement s, Map<String, Long> words) {
        long value = s.value.of(words);
        boolean coin = s.kind.equals("rent") || s.kind.equals("credit");
        return coin ? Math.max(0, Math.min(1000000, value)) : value;
    }

    /** Of some TEXTS in order what is left of a KIND (and NAME) and holds. */
    private static List<Statement> holding(List<Text> in, int kind, String name, Map<String, Long> words) {
        List<Statement> all = new ArrayList<>();
        String wanted = KINDS.get(kind);
        for (Text t : in) {
            if (t.statements.stream().anyMatch(s -> s.kind.equals("strike") && s.name.equals(wanted))) {
                all.clear();
            }
            for (Statement s : t.statements) {
                boolean named = kind != 6 || name.equals(s.name);
                if (s.kind.equals(wanted) && named && s.cond.of(words)) {
                    all.add(s);
                }
            }
        }
        return all;
    }

    private List<Statement> holding(int kind, String name, Person p, int day, int known) {
        List<Text> in = new ArrayList<>(texts);
        in.removeIf(t -> t.told > known || t.from > day);
        in.sort((a, b) -> a.from != b.from ? a.from - b.from : a.number - b.number);
        return holding(in, kind, name, wordsNow(p, day));
    }

    private static int last(List<Statement> all, int kind, Map<String, Long> words) {
        return all.isEmpty() ? WITHOUT[kind] : (int) valueOf(all.get(all.size() - 1), words);
    }

    private int rule(int kind, String name, Person p, int day, int known) {
        return last(holding(kind, name, p, day, known), kind, wordsNow(p, day));
    }

    private int ruleNow(int kind, Person p) {
        return rule(kind, null, p, today, today);
    }

    private boolean unasked(int kind, int person, int day, int known) {
        return out(kind, 0, 5) || none(person, persons) || out(day, 0, 9999) || out(known, 0, today);
    }

    int value(int kind, int person, int day, int known) {
        if (unasked(kind, person, day, known)) {
            throw new NoSuchElementException();
        }
        return rule(kind, null, persons.get(person), day, known);
    }

    int why(int kind, int person, int day, int known) {
        if (unasked(kind, person, day, known)) {
            return -1;
        }
        List<Statement> all = holding(kind, null, persons.get(person), day, known);
        return all.isEmpty() ? -1 : 100 * all.get(all.size() - 1).text + all.get(all.size() - 1).number;
    }

    int quarrel(int kind, int person, int day, int known) {
        if (unasked(kind, person, day, known)) {
            return -1;
        }
        Person p = persons.get(person);
        int rule = rule(kind, null, p, day, known);
        return (int) holding(kind, null, p, day, known).stream()
                .filter(s -> valueOf(s, wordsNow(p, day)) != rule).count();
    }

    int fineOf(int name, int person, int day, int known) {
        if (name < 0 || name >= names.size() || unasked(0, person, day, known)) {
            return -1;
        }
        return rule(6, List.copyOf(names).get(name), persons.get(person), day, known);
    }

    boolean hours(int person, int week, int hours) {
        if (none(person, persons) || out(week, today / 7, 1428) || out(hours, 0, 84) || told.size() == 400) {
            return false;
        }
        told.add(new int[] {person, week, hours});
        return true;
    }

    int days(int n) {
        if (out(n, 0, 60) || today + n > 9999) {
            return -1;
        }
        for (int i = 0; i < n; i++) {
            for (Person p : persons) {
                if (p.leave != null && p.leave <= today) {
                    p.left = p.house;
                    p.house.let = null;
                    p.house = null;
                    p.leave = null;
                }
            }
            if ((today + 1) % 7 == 0) {
                Map<Person, int[]> rows = new HashMap<>();
                for (Person p : persons) {
                    rows.put(p, closed(p, today / 7));
                }
                weeks.add(rows);
            }
            today++;
        }
        return today;
    }

    private boolean rented(Person p) {
        return p.house != null && p.house.sold == null;
    }

    private int[] closed(Person p, int week) {
        int rent = rented(p) ? ruleNow(0, p) : 0;
        int most = ruleNow(1, p);
        int hours = 0;
        for (int[] t : told) {
            hours = t[0] == p.number && t[1] == week ? t[2] : hours;
        }
        int earned = p.pay == null ? 0 : p.pay * hours;
        int limit = earned * most / 100;
        p.arrears += rent;
        int rest = limit;
        while (rest > 0 && p.fines > 0) {
            rest--;
            p.fines--;
        }
        while (rest > 0 && p.arrears > 0) {
            rest--;
            p.arrears--;
        }
        while (rest > 0 && p.debt > 0) {
            rest--;
            p.debt--;
        }
        int kept = Math.min(rest, p.club);
        p.saved += kept;
        box += kept * holding / 100;
        int stopped = limit - rest + kept;
        p.purse += earned - stopped;
        boolean lacked = p.purse < 20 * p.heads;
        p.purse = lacked ? 0 : p.purse - 20 * p.heads;
        return new int[] {earned, rent, stopped, earned - stopped, lacked ? 1 : 0,
            p.pay == null ? 0 : p.pay, rented(p) ? p.house.number : -1};
    }

    int row(int week, int person, int what) {
        if (none(week, weeks) || none(person, persons) || out(what, 0, 6)
                || !weeks.get(week).containsKey(persons.get(person))) {
            throw new NoSuchElementException();
        }
        return weeks.get(week).get(persons.get(person))[what];
    }

    boolean good(int good, int price, int town, int stock) {
        if (out(good, 0, 5) || out(price, 1, 999) || out(town, 1, 999) || out(stock, 0, 9999)) {
            return false;
        }
        goods[good] = new int[] {price, town, stock};
        return true;
    }

    int buys(int person, int good, int n) {
        if (none(person, persons) || out(good, 0, 5) || out(n, 1, 99)) {
            return -1;
        }
        Person p = persons.get(person);
        int[] g = goods[good];
        if (g[2] < n) {
            return -2;
        }
        int cost = g[0] * n;
        if (p.purse >= cost) {
            p.purse -= cost;
        } else {
            if (p.debt + cost > ruleNow(5, p)) {
                return -3;
            }
            p.debt += cost;
        }
        g[2] -= n;
        p.dearer += cost - g[1] * n;
        return cost;
    }

    int draws(int person) {
        if (none(person, persons)) {
            return -1;
        }
        Person p = persons.get(person);
        int n = Math.min(p.saved, box);
        p.purse += n;
        p.saved -= n;
        box -= n;
        return n;
    }

    int run(int what) {
        if (out(what, 0, 1)) {
            return -1;
        }
        int inBox = box;
        int who = 0;
        int how = 0;
        for (Person p : persons) {
            int lack = Math.max(0, p.saved - inBox);
            inBox = Math.max(0, inBox - p.saved);
            how += lack;
            who += lack > 0 ? 1 : 0;
        }
        return what == 0 ? who : how;
    }

    int ends(int person) {
        if (none(person, persons) || persons.get(person).pay == null) {
            return -1;
        }
        Person p = persons.get(person);
        boolean stays = p.house == null || p.house.sold != null || ruleNow(3, p) == 1;
        int day = today + ruleNow(2, p);
        p.ended = new int[] {p.pay, p.since, today};
        p.left = null;
        p.pay = null;
        p.since = null;
        p.leave = stays ? null : day;
        queue.remove(p);
        return stays ? -2 : day;
    }

    int undone(int person) {
        if (none(person, persons)) {
            return -1;
        }
        Person p = persons.get(person);
        if (p.pay != null || p.ended == null || today - p.ended[2] > 30) {
            return -1;
        }
        begin(p, p.ended[0], p.ended[1]);
        if (p.left != null && p.left.let == null && p.left.sold == null && p.house == null) {
            p.house = p.left;
            p.house.let = p;
            return 1;
        }
        return 0;
    }

    int asks(int person) {
        if (none(person, persons)) {
            return -1;
        }
        Person p = persons.get(person);
        if (p.pay == null || p.house != null || queue.contains(p)) {
            return -1;
        }
        queue.add(p);
        return queue.indexOf(p);
    }

    int give(int house) {
        if (none(house, houses)) {
            return -1;
        }
        House h = houses.get(house);
        if (h.let != null || h.sold != null) {
            return -1;
        }
        List<Person> fit = new ArrayList<>(queue);
        fit.removeIf(p -> p.heads > 2 * h.rooms);
        if (fit.isEmpty()) {
            return -2;
        }
        Person best = fit.get(0);
        for (Person p : fit) {
            best = ruleNow(4, p) > ruleNow(4, best) ? p : best;
        }
        for (Person p : persons) {
            boolean ahead = queue.contains(p) && queue.indexOf(p) < queue.indexOf(best);
            p.why = !ahead ? 0 : fit.contains(p) ? 2 : 1;
        }
        queue.remove(best);
        best.house = h;
        h.let = best;
        return best.number;
    }

    int passed(int person) {
        return none(person, persons) ? -1 : persons.get(person).why;
    }

    int seen(int person, int name) {
        if (none(person, persons) || out(name, 0, names.size() - 1) || seen.size() == 100) {
            return -1;
        }
        seen.add(new int[] {person, name, today, 0});
        return seen.size() - 1;
    }

    int fines(int number) {
        if (none(number, seen) || seen.get(number)[3] == 1) {
            return -1;
        }
        int[] s = seen.get(number);
        Person p = persons.get(s[0]);
        int fine = rule(6, List.copyOf(names).get(s[1]), p, s[2], today);
        p.fines += fine;
        s[3] = fine > 0 ? 1 : 0;
        return fine;
    }

    int unlike(int number) {
        if (none(number, seen)) {
            return -1;
        }
        int[] like = seen.get(number);
        return (int) seen.stream().filter(s -> s[1] == like[1] && s[2] == like[2] && s[3] == 0).count();
    }

    int flaw(int house, int weight) {
        if (none(house, houses) || out(weight, 1, 9) || flaws.size() == 60) {
            return -1;
        }
        flaws.add(new int[] {house, weight, today, 0});
        return flaws.size() - 1;
    }

    int mends(int flaw) {
        if (none(flaw, flaws) || flaws.get(flaw)[3] == 1) {
            return -1;
        }
        flaws.get(flaw)[3] = 1;
        return today - flaws.get(flaw)[2];
    }

    int waits(int house, int what) {
        int[] wait = new int[houses.size()];
        for (int[] f : flaws) {
            wait[f[0]] += f[3] == 1 ? 0 : f[1] * (today - f[2]);
        }
        if (what == 0) {
            return none(house, houses) ? -1 : wait[house];
        }
        int most = Arrays.stream(wait).max().orElse(0);
        for (int i = 0; what == 1 && most > 0 && i < wait.length; i++) {
            if (wait[i] == most) {
                return i;
            }
        }
        return -1;
    }

    int lasts(int person, int fund) {
        if (none(person, persons) || persons.get(person).pay == null || out(fund, 0, 1000000)) {
            return -1;
        }
        Person p = persons.get(person);
        int heads = persons.stream().filter(q -> q.pay != null).mapToInt(q -> q.heads).sum();
        int has = p.purse + p.saved + fund * p.heads / heads;
        int need = 20 * p.heads + (rented(p) ? ruleNow(0, p) : 0);
        int weeksLong = 0;
        while (weeksLong < 52 && has >= need) {
            has -= need;
            weeksLong++;
        }
        return weeksLong;
    }

    int lasting(int n, int fund) {
        if (out(n, 0, 52) || out(fund, 0, 1000000)) {
            return -1;
        }
        return (int) persons.stream().filter(p -> p.pay != null && lasts(p.number, fund) >= n).count();
    }

    long other(int text, int person) {
        if (none(text, texts) || none(person, persons)) {
            return -1;
        }
        Person p = persons.get(person);
        List<Text> alone = List.of(texts.get(text));
        long left = 0;
        for (int w = 0; w < weeks.size(); w++) {
            int[] row = weeks.get(w).get(p);
            if (row != null) {
                House h = row[6] < 0 ? null : houses.get(row[6]);
                Map<String, Long> words = words(p, h, row[5], 7 * w + 6);
                int rent = h == null ? 0 : last(holding(alone, 0, null, words), 0, words);
                int most = last(holding(alone, 1, null, words), 1, words);
                left += row[0] - Math.min(rent, row[0] * most / 100);
            }
        }
        return left;
    }

    boolean bid(int person, int house, int pence) {
        if (none(person, persons) || none(house, houses) || houses.get(house).sold != null
                || out(pence, 0, 100000)) {
            return false;
        }
        houses.get(house).bids.put(person, pence);
        return true;
    }

    /** THE BEST: behind its sum, HOUSE by HOUSE, to whom (60: nobody); null: no such HOUSES. */
    private int[] best(int bits) {
        if (Integer.bitCount(bits) < 1 || Integer.bitCount(bits) > 7) {
            return null;
        }
        List<House> some = new ArrayList<>();
        for (int i = 0; i < 32; i++) {
            if ((bits >> i & 1) == 1) {
                if (none(i, houses) || houses.get(i).sold != null) {
                    return null;
                }
                some.add(houses.get(i));
            }
        }
        int[] best = new int[1 + some.size()];
        best[0] = -1;
        tryAll(some, 0, new int[1 + some.size()], best, new boolean[60]);
        return best;
    }

    private void tryAll(List<House> some, int at, int[] way, int[] best, boolean[] has) {
        if (at == some.size()) {
            if (way[0] > best[0]) {
                System.arraycopy(way, 0, best, 0, way.length);
            }
            return;
        }
        for (int p = 0; p < persons.size(); p++) {
            int bid = some.get(at).bids.getOrDefault(p, 0);
            if (bid > 0 && !has[p]) {
                has[p] = true;
                way[0] += bid;
                way[at + 1] = p;
                tryAll(some, at + 1, way, best, has);
                way[0] -= bid;
                has[p] = false;
            }
        }
        way[at + 1] = 60;
        tryAll(some, at + 1, way, best, has);
    }

    int sells(int bits) {
        int[] best = best(bits);
        return best == null ? -1 : best[0];
    }

    int buyer(int bits, int house) {
        int[] best = best(bits);
        if (best == null || out(house, 0, 29) || (bits >> house & 1) == 0) {
            return -1;
        }
        int who = best[1 + Integer.bitCount(bits & (1 << house) - 1)];
        return who == 60 ? -1 : who;
    }

    boolean sold(int house, int person) {
        if (none(house, houses) || none(person, persons)) {
            return false;
        }
        House h = houses.get(house);
        if (h.sold != null || h.bids.getOrDefault(person, 0) == 0) {
            return false;
        }
        for (Person p : persons) {
            if (p.house == h) {
                p.leave = null;
                p.house = p.number == person ? h : null;
            }
        }
        h.let = null;
        h.sold = persons.get(person);
        return true;
    }

    int of(int person, int what) {
        if (none(person, persons) || out(what, 0, 13)) {
            throw new NoSuchElementException();
        }
        Person p = persons.get(person);
        return new int[] {p.heads, p.age, p.purse, p.saved, p.debt, p.fines, p.arrears, p.club,
            p.pay == null ? 0 : p.pay, p.since == null ? -1 : p.since,
            p.house == null ? -1 : p.house.number, p.leave == null ? -1 : p.leave,
            p.dearer, queue.indexOf(p)}[what];
    }

    int houseOf(int house, int what) {
        if (none(house, houses) || out(what, 0, 3)) {
            return -1;
        }
        House h = houses.get(house);
        Person holder = h.sold != null ? h.sold : h.let;
        return new int[] {h.rooms, h.rank, h.sold != null ? 2 : h.let != null ? 1 : 0,
            holder == null ? -1 : holder.number}[what];
    }

    int count(int what) {
        if (out(what, 0, 12)) {
            return -1;
        }
        return new int[] {persons.size(), houses.size(), today, texts.size(), names.size(),
            told.size(), seen.size(), flaws.size(), box, holding, tape.size(), queue.size(),
            weeks.size()}[what];
    }
}

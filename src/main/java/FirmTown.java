import java.util.ArrayList;
import java.util.Arrays;
import java.util.NoSuchElementException;

/** A town that belongs to one mill: its persons, houses, rules, weeks, store, club and sales. */
public final class FirmTown {
    public static final int NONE = -1;

    private static final int LAST_DAY = 9999;
    private static final int WEEK_DAYS = 7;
    private static final int MOST_PERSONS = 60;
    private static final int MOST_HOUSES = 30;
    private static final int MOST_TEXTS = 12;
    private static final int MOST_STATEMENTS = 10;
    private static final int MOST_BYTES = 300;
    private static final int MOST_BRACKETS = 4;
    private static final int MOST_TELLINGS = 400;
    private static final int MOST_SEEN = 100;
    private static final int MOST_FLAWS = 60;
    private static final int MOST_LASTING = 52;
    private static final int MOST_FUND = 1000000;
    private static final int MOST_SUM = 1000000000;
    private static final int MOST_COIN = 1000000;
    private static final int EATEN = 20;
    private static final int UNDONE_DAYS = 30;
    private static final int GOODS = 6;

    private static final int RENT = 0;
    private static final int MOST = 1;
    private static final int LEAVE = 2;
    private static final int KEEP = 3;
    private static final int RANK = 4;
    private static final int CREDIT = 5;
    private static final int FINE = 6;
    private static final int STRIKE = 7;

    private static final int EMPTY = 0;
    private static final int LET = 1;
    private static final int SOLD = 2;

    private static final int FOR_ROOMS = 1;
    private static final int FOR_RANK = 2;

    private static final int MOST_SOLD_AT_ONCE = 7;
    private static final int HOUSE_BITS = 32;
    private static final int PERSON_BITS = 6;
    private static final int PERSON_MASK = 63;
    private static final int SUM_SHIFT = PERSON_BITS * MOST_SOLD_AT_ONCE;

    private final ArrayList<Person> persons = new ArrayList<>();
    private final ArrayList<House> houses = new ArrayList<>();
    private final ArrayList<Person> queue = new ArrayList<>();
    private final ArrayList<Telling> tellings = new ArrayList<>();
    private final ArrayList<Week> weeks = new ArrayList<>();
    private final ArrayList<Sight> sights = new ArrayList<>();
    private final ArrayList<Flaw> flaws = new ArrayList<>();
    private final ArrayList<Good> goods = new ArrayList<>();
    private final TextReader reader = new TextReader();
    private final Laws laws = new Laws();
    private final ArrayList<House> offered = new ArrayList<>();
    private final long[] best = new long[1 << MOST_SOLD_AT_ONCE];
    private int today = 0;
    private int box = 0;
    private int held = 100;

    public FirmTown() {
        for (int i = 0; i < GOODS; i++) {
            goods.add(new Good());
        }
    }

    // ---- persons, houses, posts ----

    public int person(int heads, int age) {
        if (!within(heads, 1, 12) || !within(age, 10, 90) || persons.size() >= MOST_PERSONS) {
            return NONE;
        }
        Person made = new Person(persons.size(), heads, age);
        persons.add(made);
        return made.number;
    }

    public int house(int rooms, int rank) {
        if (!within(rooms, 1, 9) || !within(rank, 0, 5) || houses.size() >= MOST_HOUSES) {
            return NONE;
        }
        House made = new House(houses.size(), rooms, rank);
        houses.add(made);
        return made.number;
    }

    public boolean post(int person, int pay) {
        Person p = personAt(person);
        if (p == null || p.hasPost() || !within(pay, 1, 200)) {
            return false;
        }
        p.takePost(pay, today);
        return true;
    }

    public boolean club(int person, int pence) {
        Person p = personAt(person);
        if (p == null || !within(pence, 0, 9999)) {
            return false;
        }
        p.club = pence;
        return true;
    }

    public boolean holds(int hundredths) {
        if (!within(hundredths, 0, 100)) {
            return false;
        }
        held = hundredths;
        return true;
    }

    // ---- the TAPE and the TEXTS ----

    public int feed(int a, int b, int c, int d, int e) {
        if (!reader.hasSpaceFor(20)) {
            return NONE;
        }
        reader.append(a);
        reader.append(b);
        reader.append(c);
        reader.append(d);
        reader.append(e);
        return reader.length;
    }

    public int end(int n) {
        if (!within(n, 0, reader.length)) {
            return NONE;
        }
        reader.length = n;
        return n;
    }

    public int text(int from) {
        if (!isDay(from) || laws.texts.size() >= MOST_TEXTS) {
            return NONE;
        }
        Text text = new Text(laws.texts.size(), from, today);
        if (!reader.fill(text)) {
            return -1 - reader.fault;
        }
        laws.take(text);
        return text.number;
    }

    public int place() {
        return reader.faultPlace;
    }

    // ---- THE RULES ----

    public int value(int kind, int person, int day, int known) throws NoSuchElementException {
        Person p = personAt(person);
        if (p == null || !isAskable(kind, day, known)) {
            throw new NoSuchElementException();
        }
        laws.setWords(p, day);
        return laws.find(kind, NONE, day, known);
    }

    public int why(int kind, int person, int day, int known) {
        Person p = personAt(person);
        if (p == null || !isAskable(kind, day, known)) {
            return NONE;
        }
        laws.setWords(p, day);
        laws.find(kind, NONE, day, known);
        return laws.foundPlace();
    }

    public int quarrel(int kind, int person, int day, int known) {
        Person p = personAt(person);
        if (p == null || !isAskable(kind, day, known)) {
            return NONE;
        }
        laws.setWords(p, day);
        return laws.countQuarrels(kind, day, known);
    }

    public int fineOf(int name, int person, int day, int known) {
        Person p = personAt(person);
        if (p == null || !laws.hasName(name) || !isAskable(RENT, day, known)) {
            return NONE;
        }
        laws.setWords(p, day);
        return laws.find(FINE, name, day, known);
    }

    private boolean isAskable(int kind, int day, int known) {
        return within(kind, RENT, CREDIT) && isDay(day) && within(known, 0, today);
    }

    /** The VALUE of THE RULE of a KIND for a PERSON, known and in force TODAY. */
    private int ruleToday(int kind, Person p) {
        laws.setWords(p, today);
        return laws.find(kind, NONE, today, today);
    }

    // ---- HOURS, DAYS and WEEKS ----

    public boolean hours(int person, int week, int hours) {
        Person p = personAt(person);
        boolean open = within(week, weeks.size(), LAST_DAY / WEEK_DAYS);
        if (p == null || !open || !within(hours, 0, 84) || tellings.size() >= MOST_TELLINGS) {
            return false;
        }
        tellings.add(new Telling(p, week, hours));
        return true;
    }

    public int days(int n) {
        if (!within(n, 0, 60) || n > LAST_DAY - today) {
            return NONE;
        }
        for (int i = 0; i < n; i++) {
            leaveHouses();
            if (today % WEEK_DAYS == WEEK_DAYS - 1) {
                closeWeek();
            }
            today++;
        }
        return today;
    }

    private void leaveHouses() {
        for (int i = 0; i < persons.size(); i++) {
            Person p = persons.get(i);
            if (p.leaveDay != NONE && p.leaveDay <= today) {
                p.moveOut();
            }
        }
    }

    private void closeWeek() {
        gatherHours(weeks.size());
        Week closed = new Week(persons.size());
        for (int i = 0; i < persons.size(); i++) {
            settle(persons.get(i), closed);
        }
        weeks.add(closed);
    }

    private void gatherHours(int week) {
        for (int i = 0; i < persons.size(); i++) {
            persons.get(i).worked = 0;
        }
        for (int i = 0; i < tellings.size(); i++) {
            Telling told = tellings.get(i);
            if (told.week == week) {
                told.person.worked = told.hours;
            }
        }
    }

    private void settle(Person p, Week closed) {
        // Both RULES are asked before the coin of this PERSON moves: their WORDS see it as it was.
        laws.setWords(p, today);
        int rent = p.paysRent() ? laws.find(RENT, NONE, today, today) : 0;
        int most = laws.find(MOST, NONE, today, today);
        p.arrears += rent;
        int earned = p.worked * p.pay;
        int stopped = stopFrom(p, earned * most / 100);
        p.purse += earned - stopped;
        int need = EATEN * p.heads;
        int eaten = Math.min(need, p.purse);
        p.purse -= eaten;
        closed.put(p.number, Week.EARNED, earned);
        closed.put(p.number, Week.RENT_DUE, rent);
        closed.put(p.number, Week.STOPPED, stopped);
        closed.put(p.number, Week.LEFT, earned - stopped);
        closed.put(p.number, Week.LACKED, eaten < need ? 1 : 0);
        closed.put(p.number, Week.PAY, p.pay);
        closed.put(p.number, Week.HOUSE, p.paysRent() ? p.house.number : NONE);
    }

    /** Stops up to a limit for fines, arrears, debt and club, in this order: how much in all. */
    private int stopFrom(Person p, int limit) {
        int rest = limit;
        int part = Math.min(rest, p.fines);
        p.fines -= part;
        rest -= part;
        part = Math.min(rest, p.arrears);
        p.arrears -= part;
        rest -= part;
        part = Math.min(rest, p.debt);
        p.debt -= part;
        rest -= part;
        part = Math.min(rest, p.club);
        p.saved += part;
        box += part * held / 100;
        rest -= part;
        return limit - rest;
    }

    public int row(int week, int person, int what) throws NoSuchElementException {
        if (!within(week, 0, weeks.size() - 1) || !within(what, 0, Week.CELLS - 1)) {
            throw new NoSuchElementException();
        }
        Week closed = weeks.get(week);
        if (!within(person, 0, closed.persons - 1)) {
            throw new NoSuchElementException();
        }
        return closed.cell(person, what);
    }

    // ---- THE STORE and the CLUB ----

    public boolean good(int good, int price, int town, int stock) {
        if (!within(good, 0, goods.size() - 1) || !within(price, 1, 999)
                || !within(town, 1, 999) || !within(stock, 0, 9999)) {
            return false;
        }
        Good changed = goods.get(good);
        changed.price = price;
        changed.town = town;
        changed.stock = stock;
        return true;
    }

    public int buys(int person, int good, int n) {
        Person p = personAt(person);
        if (p == null || !within(good, 0, goods.size() - 1) || !within(n, 1, 99)) {
            return NONE;
        }
        Good bought = goods.get(good);
        if (n > bought.stock) {
            return -2;
        }
        int cost = n * bought.price;
        if (cost <= p.purse) {
            p.purse -= cost;
        } else if (p.debt + cost <= ruleToday(CREDIT, p)) {
            p.debt += cost;
        } else {
            return -3;
        }
        bought.stock -= n;
        p.dearer += n * (bought.price - bought.town);
        return cost;
    }

    public int draws(int person) {
        Person p = personAt(person);
        if (p == null) {
            return NONE;
        }
        int drawn = Math.min(p.saved, box);
        p.saved -= drawn;
        box -= drawn;
        p.purse += drawn;
        return drawn;
    }

    public int run(int what) {
        if (!within(what, 0, 1)) {
            return NONE;
        }
        int rest = box;
        int who = 0;
        int lacking = 0;
        for (int i = 0; i < persons.size(); i++) {
            int saved = persons.get(i).saved;
            int drawn = Math.min(saved, rest);
            rest -= drawn;
            lacking += saved - drawn;
            if (drawn < saved) {
                who++;
            }
        }
        return what == 0 ? who : lacking;
    }

    // ---- a POST ends, THE QUEUE ----

    public int ends(int person) {
        Person p = personAt(person);
        if (p == null || !p.hasPost()) {
            return NONE;
        }
        int leaveDay = NONE;
        if (p.paysRent() && ruleToday(KEEP, p) != 1) {
            leaveDay = today + ruleToday(LEAVE, p);
        }
        p.losePost(today, leaveDay);
        int place = placeInQueue(p);
        if (place != NONE) {
            queue.remove(place);
        }
        return leaveDay == NONE ? -2 : leaveDay;
    }

    public int undone(int person) {
        Person p = personAt(person);
        if (p == null || p.hasPost() || p.endDay == NONE || today > p.endDay + UNDONE_DAYS) {
            return NONE;
        }
        p.takePost(p.endedPay, p.endedSince);
        House left = p.leftHouse;
        if (left == null || left.state != EMPTY || p.house != null) {
            return 0;
        }
        p.moveInto(left);
        return 1;
    }

    public int asks(int person) {
        Person p = personAt(person);
        if (p == null || !p.hasPost() || p.house != null || placeInQueue(p) != NONE) {
            return NONE;
        }
        queue.add(p);
        return queue.size() - 1;
    }

    public int give(int house) {
        House h = houseAt(house);
        if (h == null || h.state != EMPTY) {
            return NONE;
        }
        int place = placeOfFirst(h);
        if (place == NONE) {
            return -2;
        }
        notePassed(h, place);
        Person p = queue.remove(place);
        p.moveInto(h);
        return p.number;
    }

    /** The place in THE QUEUE of whom a HOUSE is to be given; NONE: nobody. */
    private int placeOfFirst(House h) {
        int first = NONE;
        int highest = 0;
        for (int i = 0; i < queue.size(); i++) {
            Person p = queue.get(i);
            if (h.hasRoomFor(p)) {
                int rank = ruleToday(RANK, p);
                if (first == NONE || rank > highest) {
                    first = i;
                    highest = rank;
                }
            }
        }
        return first;
    }

    private void notePassed(House h, int place) {
        for (int i = 0; i < persons.size(); i++) {
            persons.get(i).passedFor = 0;
        }
        for (int i = 0; i < place && i < queue.size(); i++) {
            Person p = queue.get(i);
            p.passedFor = h.hasRoomFor(p) ? FOR_RANK : FOR_ROOMS;
        }
    }

    private int placeInQueue(Person p) {
        for (int i = 0; i < queue.size(); i++) {
            if (queue.get(i).number == p.number) {
                return i;
            }
        }
        return NONE;
    }

    public int passed(int person) {
        Person p = personAt(person);
        return p == null ? NONE : p.passedFor;
    }

    // ---- what was SEEN, FAULTS of HOUSES ----

    public int seen(int person, int name) {
        Person p = personAt(person);
        if (p == null || !laws.hasName(name) || sights.size() >= MOST_SEEN) {
            return NONE;
        }
        sights.add(new Sight(p, name, today));
        return sights.size() - 1;
    }

    public int fines(int seen) {
        if (!within(seen, 0, sights.size() - 1)) {
            return NONE;
        }
        Sight s = sights.get(seen);
        if (s.fined) {
            return NONE;
        }
        laws.setWords(s.person, s.day);
        int amount = laws.find(FINE, s.name, s.day, today);
        if (amount > 0) {
            s.person.fines += amount;
            s.fined = true;
        }
        return amount;
    }

    public int unlike(int seen) {
        if (!within(seen, 0, sights.size() - 1)) {
            return NONE;
        }
        Sight like = sights.get(seen);
        int n = 0;
        for (int i = 0; i < sights.size(); i++) {
            Sight s = sights.get(i);
            if (s.name == like.name && s.day == like.day && !s.fined) {
                n++;
            }
        }
        return n;
    }

    public int flaw(int house, int weight) {
        House h = houseAt(house);
        if (h == null || !within(weight, 1, 9) || flaws.size() >= MOST_FLAWS) {
            return NONE;
        }
        flaws.add(new Flaw(h.number, weight, today));
        return flaws.size() - 1;
    }

    public int mends(int flaw) {
        if (!within(flaw, 0, flaws.size() - 1)) {
            return NONE;
        }
        Flaw f = flaws.get(flaw);
        if (f.mended) {
            return NONE;
        }
        f.mended = true;
        return today - f.day;
    }

    public int waits(int house, int what) {
        if (what == 1) {
            return waitsMost();
        }
        House h = houseAt(house);
        return h == null || what != 0 ? NONE : waitOf(h.number);
    }

    private int waitOf(int house) {
        int wait = 0;
        for (int i = 0; i < flaws.size(); i++) {
            Flaw f = flaws.get(i);
            if (f.house == house && !f.mended) {
                wait += f.weight * (today - f.day);
            }
        }
        return wait;
    }

    private int waitsMost() {
        int most = 0;
        int which = NONE;
        for (int i = 0; i < houses.size(); i++) {
            int wait = waitOf(i);
            if (wait > most) {
                most = wait;
                which = i;
            }
        }
        return which;
    }

    // ---- a STRIKE, OTHER RULES ----

    public int lasts(int person, int fund) {
        Person p = personAt(person);
        if (p == null || !p.hasPost() || !within(fund, 0, MOST_FUND)) {
            return NONE;
        }
        return weeksOf(p, fund, headsWithPosts());
    }

    public int lasting(int n, int fund) {
        if (!within(n, 0, MOST_LASTING) || !within(fund, 0, MOST_FUND)) {
            return NONE;
        }
        int allHeads = headsWithPosts();
        int homes = 0;
        for (int i = 0; i < persons.size(); i++) {
            Person p = persons.get(i);
            if (p.hasPost() && weeksOf(p, fund, allHeads) >= n) {
                homes++;
            }
        }
        return homes;
    }

    private int headsWithPosts() {
        int heads = 0;
        for (int i = 0; i < persons.size(); i++) {
            if (persons.get(i).hasPost()) {
                heads += persons.get(i).heads;
            }
        }
        return heads;
    }

    private int weeksOf(Person p, int fund, int allHeads) {
        int has = p.purse + p.saved;
        if (allHeads > 0) {
            has += fund * p.heads / allHeads;
        }
        int need = EATEN * p.heads;
        if (p.paysRent()) {
            need += ruleToday(RENT, p);
        }
        return need > 0 ? Math.min(has / need, MOST_LASTING) : MOST_LASTING;
    }

    public long other(int text, int person) {
        Person p = personAt(person);
        if (p == null || !within(text, 0, laws.texts.size() - 1)) {
            return NONE;
        }
        Text alone = laws.texts.get(text);
        long left = 0;
        for (int i = 0; i < weeks.size(); i++) {
            if (p.number < weeks.get(i).persons) {
                left += leftBy(alone, p, i);
            }
        }
        return left;
    }

    private int leftBy(Text alone, Person p, int week) {
        Week closed = weeks.get(week);
        int earned = closed.cell(p.number, Week.EARNED);
        House h = houseAt(closed.cell(p.number, Week.HOUSE));
        int lastDay = week * WEEK_DAYS + WEEK_DAYS - 1;
        laws.setRowWords(p, h, closed.cell(p.number, Week.PAY), lastDay);
        int rent = h == null ? 0 : laws.findAlone(alone, RENT);
        int most = laws.findAlone(alone, MOST);
        return earned - Math.min(rent, earned * most / 100);
    }

    // ---- SALES ----

    public boolean bid(int person, int house, int pence) {
        Person p = personAt(person);
        House h = houseAt(house);
        if (p == null || h == null || h.state == SOLD || !within(pence, 0, 100000)) {
            return false;
        }
        h.setBid(p.number, pence);
        return true;
    }

    public int sells(int houses) {
        return offer(houses) ? (int) (bestSale() >> SUM_SHIFT) : NONE;
    }

    public int buyer(int houses, int house) {
        if (!offer(houses)) {
            return NONE;
        }
        for (int i = 0; i < offered.size(); i++) {
            if (offered.get(i).number == house) {
                int digit = (int) (bestSale() >> placeShift(i)) & PERSON_MASK;
                return digit == 0 ? NONE : PERSON_MASK - digit;
            }
        }
        return NONE;
    }

    /** Lays out the HOUSES of some bits: whether they can be sold together. */
    private boolean offer(int bits) {
        offered.clear();
        for (int i = 0; i < HOUSE_BITS; i++) {
            if ((bits >>> i & 1) == 1) {
                House h = houseAt(i);
                if (h == null || h.state == SOLD || offered.size() >= MOST_SOLD_AT_ONCE) {
                    return false;
                }
                offered.add(h);
            }
        }
        return !offered.isEmpty();
    }

    /**
     * THE BEST of the offered HOUSES in one number: above SUM_SHIFT the sum of BIDS, and below,
     * HOUSE by HOUSE, 63 less the PERSON (0 for nobody). Since the first HOUSE has the highest
     * digit, the greatest such number is the greatest sum with the least PERSONS.
     */
    private long bestSale() {
        int sets = 1 << offered.size();
        Arrays.fill(best, 0L);
        for (int i = 0; i < persons.size(); i++) {
            if (bidsForOffered(i)) {
                // From the fullest set down: so a PERSON is in no smaller set that it joins.
                for (int set = Math.min(sets, best.length) - 1; set > 0; set--) {
                    best[set] = bestWith(i, set);
                }
            }
        }
        return within(sets, 1, best.length) ? best[sets - 1] : 0;
    }

    private boolean bidsForOffered(int person) {
        for (int i = 0; i < offered.size(); i++) {
            if (offered.get(i).bidOf(person) > 0) {
                return true;
            }
        }
        return false;
    }

    private long bestWith(int person, int set) {
        long most = within(set, 0, best.length - 1) ? best[set] : 0;
        for (int i = 0; i < offered.size(); i++) {
            long bid = offered.get(i).bidOf(person);
            int rest = set & ~(1 << i);
            if (bid > 0 && rest != set && within(rest, 0, best.length - 1)) {
                long digit = (long) (PERSON_MASK - person) << placeShift(i);
                most = Math.max(most, best[rest] + (bid << SUM_SHIFT) + digit);
            }
        }
        return most;
    }

    private static int placeShift(int place) {
        return PERSON_BITS * (MOST_SOLD_AT_ONCE - 1 - place);
    }

    public boolean sold(int house, int person) {
        House h = houseAt(house);
        Person p = personAt(person);
        if (h == null || p == null || h.state == SOLD || h.bidOf(p.number) == 0) {
            return false;
        }
        Person tenant = h.holder;
        if (tenant != null) {
            tenant.leaveDay = NONE;
            if (tenant.number != p.number) {
                tenant.house = null;
            }
        }
        h.state = SOLD;
        h.holder = p;
        return true;
    }

    // ---- what can be asked ----

    public int of(int person, int what) throws NoSuchElementException {
        Person p = personAt(person);
        if (p == null || !within(what, 0, 13)) {
            throw new NoSuchElementException();
        }
        switch (what) {
            case 0: return p.heads;
            case 1: return p.age;
            case 2: return p.purse;
            case 3: return p.saved;
            case 4: return p.debt;
            case 5: return p.fines;
            case 6: return p.arrears;
            case 7: return p.club;
            case 8: return p.pay;
            case 9: return p.since;
            case 10: return p.house == null ? NONE : p.house.number;
            case 11: return p.leaveDay;
            case 12: return p.dearer;
            default: return placeInQueue(p);
        }
    }

    public int houseOf(int house, int what) {
        House h = houseAt(house);
        if (h == null) {
            return NONE;
        }
        switch (what) {
            case 0: return h.rooms;
            case 1: return h.rank;
            case 2: return h.state;
            case 3: return h.holder == null ? NONE : h.holder.number;
            default: return NONE;
        }
    }

    public int count(int what) {
        switch (what) {
            case 0: return persons.size();
            case 1: return houses.size();
            case 2: return today;
            case 3: return laws.texts.size();
            case 4: return laws.nameCount;
            case 5: return tellings.size();
            case 6: return sights.size();
            case 7: return flaws.size();
            case 8: return box;
            case 9: return held;
            case 10: return reader.length;
            case 11: return queue.size();
            case 12: return weeks.size();
            default: return NONE;
        }
    }

    private Person personAt(int number) {
        return within(number, 0, persons.size() - 1) ? persons.get(number) : null;
    }

    private House houseAt(int number) {
        return within(number, 0, houses.size() - 1) ? houses.get(number) : null;
    }

    private static boolean isDay(int day) {
        return within(day, 0, LAST_DAY);
    }

    private static boolean within(int n, int least, int most) {
        return n >= least && n <= most;
    }

    private static final class Person {
        final int number;
        final int heads;
        final int age;
        int purse = 0;
        int saved = 0;
        int debt = 0;
        int fines = 0;
        int arrears = 0;
        int club = 0;
        int dearer = 0;
        int pay = 0;
        int since = NONE;
        House house = null;
        int leaveDay = NONE;
        int endedPay = 0;
        int endedSince = NONE;
        int endDay = NONE;
        House leftHouse = null;
        int worked = 0;
        int passedFor = 0;

        Person(int number, int heads, int age) {
            this.number = number;
            this.heads = heads;
            this.age = age;
        }

        boolean hasPost() {
            return pay > 0;
        }

        boolean paysRent() {
            return house != null && house.state != SOLD;
        }

        void takePost(int newPay, int from) {
            pay = newPay;
            since = from;
            leaveDay = NONE;
        }

        void losePost(int day, int mustLeave) {
            endedPay = pay;
            endedSince = since;
            endDay = day;
            leftHouse = null;
            pay = 0;
            since = NONE;
            leaveDay = mustLeave;
        }

        void moveInto(House h) {
            house = h;
            h.state = LET;
            h.holder = this;
        }

        void moveOut() {
            leaveDay = NONE;
            if (house != null) {
                house.state = EMPTY;
                house.holder = null;
            }
            leftHouse = house;
            house = null;
        }
    }

    private static final class House {
        final int number;
        final int rooms;
        final int rank;
        int state = EMPTY;
        Person holder = null;
        private final int[] bids = new int[MOST_PERSONS];

        House(int number, int rooms, int rank) {
            this.number = number;
            this.rooms = rooms;
            this.rank = rank;
        }

        boolean hasRoomFor(Person p) {
            return p.heads <= 2 * rooms;
        }

        int bidOf(int person) {
            return within(person, 0, bids.length - 1) ? bids[person] : 0;
        }

        void setBid(int person, int pence) {
            if (within(person, 0, bids.length - 1)) {
                bids[person] = pence;
            }
        }
    }

    private static final class Good {
        int price = 1;
        int town = 1;
        int stock = 0;
    }

    private static final class Telling {
        final Person person;
        final int week;
        final int hours;

        Telling(Person person, int week, int hours) {
            this.person = person;
            this.week = week;
            this.hours = hours;
        }
    }

    /** The ROWS of one CLOSED WEEK. */
    private static final class Week {
        static final int EARNED = 0;
        static final int RENT_DUE = 1;
        static final int STOPPED = 2;
        static final int LEFT = 3;
        static final int LACKED = 4;
        static final int PAY = 5;
        static final int HOUSE = 6;
        static final int CELLS = 7;

        final int persons;
        private final int[] cells;

        Week(int persons) {
            this.persons = persons;
            this.cells = new int[persons > 0 ? persons * CELLS : 0];
        }

        void put(int person, int what, int value) {
            int at = person * CELLS + what;
            if (within(at, 0, cells.length - 1)) {
                cells[at] = value;
            }
        }

        int cell(int person, int what) {
            int at = person * CELLS + what;
            return within(at, 0, cells.length - 1) ? cells[at] : NONE;
        }
    }

    /** What was SEEN of a PERSON on a DAY. */
    private static final class Sight {
        final Person person;
        final int name;
        final int day;
        boolean fined = false;

        Sight(Person person, int name, int day) {
            this.person = person;
            this.name = name;
            this.day = day;
        }
    }

    private static final class Flaw {
        final int house;
        final int weight;
        final int day;
        boolean mended = false;

        Flaw(int house, int weight, int day) {
            this.house = house;
            this.weight = weight;
            this.day = day;
        }
    }

    /** A STATEMENT: where its code stands in its TEXT's, first of the VALUE, then of the COND. */
    private static final class Statement {
        final int number;
        final int kind;
        /** The letters of a fine's NAME in one number; 0 for other KINDS. */
        final long letters;
        int name = NONE;
        int valueFrom = 0;
        int condFrom = 0;
        int condTo = 0;

        Statement(int number, int kind, long letters) {
            this.number = number;
            this.kind = kind;
            this.letters = letters;
        }
    }

    /** A TEXT. Its code has the operands ahead of their operator: N as it is, all else below 0. */
    private static final class Text {
        static final int ROOMS = 0;
        static final int SIZE = 1;
        static final int HEADS = 2;
        static final int AGE = 3;
        static final int PAY = 4;
        static final int WEEKS = 5;
        static final int DAY = 6;
        static final int SAVED = 7;
        static final int DEBT = 8;
        static final int ARREARS = 9;
        static final int WORDS = 10;

        static final int FIRST_WORD = -1;
        static final int LAST_WORD = -10;
        static final int PLUS = -11;
        static final int MINUS = -12;
        static final int TIMES = -13;
        static final int LESS = -14;
        static final int MORE = -15;
        static final int LIKE = -16;
        static final int AND = -17;
        static final int OR = -18;
        static final int NOT = -19;

        final int number;
        final int from;
        final int told;
        final ArrayList<Statement> statements = new ArrayList<>();
        int[] code = null;
        private int struckKinds = 0;

        Text(int number, int from, int told) {
            this.number = number;
            this.from = from;
            this.told = told;
        }

        boolean isInForce(int day, int known) {
            return from <= day && told <= known;
        }

        void strike(int kind) {
            struckKinds |= 1 << kind;
        }

        boolean strikes(int kind) {
            return (struckKinds >> kind & 1) == 1;
        }
    }

    /** The TEXTS and NAMES, and THE RULES by them for the WORDS that were set last. */
    private static final class Laws {
        /** By number. */
        final ArrayList<Text> texts = new ArrayList<>();
        /** By the DAY from which they are, then by number. */
        private final ArrayList<Text> ordered = new ArrayList<>();
        private final long[] names = new long[MOST_TEXTS * MOST_STATEMENTS];
        int nameCount = 0;
        private final long[] words = new long[Text.WORDS];
        /** Four brackets and the operators about them leave some fourteen numbers open at most. */
        private final long[] stack = new long[40];
        private Text foundText = null;
        private Statement found = null;
        private int foundValue = 0;

        void take(Text text) {
            for (int i = 0; i < text.statements.size(); i++) {
                Statement s = text.statements.get(i);
                if (s.kind == FINE) {
                    s.name = numberOfName(s.letters);
                }
            }
            int place = ordered.size();
            while (place > 0 && ordered.get(place - 1).from > text.from) {
                place--;
            }
            ordered.add(place, text);
            texts.add(text);
        }

        private int numberOfName(long letters) {
            for (int i = 0; i < nameCount && i < names.length; i++) {
                if (names[i] == letters) {
                    return i;
                }
            }
            if (nameCount >= names.length) {
                return NONE;
            }
            names[nameCount] = letters;
            nameCount++;
            return nameCount - 1;
        }

        boolean hasName(int name) {
            return within(name, 0, nameCount - 1);
        }

        /** The WORDS of a PERSON on a DAY. */
        void setWords(Person p, int day) {
            setRowWords(p, p.house, p.pay, day);
            boolean begun = p.since != NONE && p.since <= day;
            words[Text.WEEKS] = begun ? (day - p.since) / WEEK_DAYS : 0;
            words[Text.SAVED] = p.saved;
            words[Text.DEBT] = p.debt;
            words[Text.ARREARS] = p.arrears;
        }

        /** The WORDS of a ROW: what it doesn't tell is 0. */
        void setRowWords(Person p, House h, int pay, int day) {
            Arrays.fill(words, 0L);
            words[Text.ROOMS] = h == null ? 0 : h.rooms;
            words[Text.SIZE] = h == null ? 0 : h.rank;
            words[Text.HEADS] = p.heads;
            words[Text.AGE] = p.age;
            words[Text.PAY] = pay;
            words[Text.DAY] = day;
        }

        /** The VALUE of THE RULE of a KIND (of a fine: of a NAME) on a DAY as known on a DAY. */
        int find(int kind, int name, int day, int known) {
            forget(kind);
            for (int i = ordered.size() - 1; i >= 0 && found == null; i--) {
                Text text = ordered.get(i);
                if (text.isInForce(day, known)) {
                    findIn(text, kind, name);
                    if (text.strikes(kind)) {
                        break;
                    }
                }
            }
            return foundValue;
        }

        /** The VALUE of THE RULE of a KIND by one TEXT alone. */
        int findAlone(Text text, int kind) {
            forget(kind);
            findIn(text, kind, NONE);
            return foundValue;
        }

        private void forget(int kind) {
            found = null;
            foundText = null;
            foundValue = kind == MOST ? 100 : kind == LEAVE ? 7 : 0;
        }

        private void findIn(Text text, int kind, int name) {
            for (int i = text.statements.size() - 1; i >= 0 && found == null; i--) {
                Statement s = text.statements.get(i);
                if (s.kind == kind && s.name == name && result(text, s.condFrom, s.condTo) != 0) {
                    found = s;
                    foundText = text;
                    foundValue = bounded(kind, result(text, s.valueFrom, s.condFrom));
                }
            }
        }

        /** 100 times the TEXT and the STATEMENT that was found last. */
        int foundPlace() {
            return found == null || foundText == null ? NONE : 100 * foundText.number + found.number;
        }

        int countQuarrels(int kind, int day, int known) {
            int ruling = find(kind, NONE, day, known);
            int n = 0;
            for (int i = ordered.size() - 1; i >= 0; i--) {
                Text text = ordered.get(i);
                if (text.isInForce(day, known)) {
                    n += countOthers(text, kind, ruling);
                    if (text.strikes(kind)) {
                        break;
                    }
                }
            }
            return n;
        }

        private int countOthers(Text text, int kind, int ruling) {
            int n = 0;
            for (int i = 0; i < text.statements.size(); i++) {
                Statement s = text.statements.get(i);
                if (s.kind == kind && result(text, s.condFrom, s.condTo) != 0
                        && bounded(kind, result(text, s.valueFrom, s.condFrom)) != ruling) {
                    n++;
                }
            }
            return n;
        }

        private static int bounded(int kind, long value) {
            if (kind != RENT && kind != CREDIT) {
                return (int) value;
            }
            return value < 0 ? 0 : value > MOST_COIN ? MOST_COIN : (int) value;
        }

        /** What a stretch of code comes to. An empty one is 1: no COND holds, and keep is 1. */
        private long result(Text text, int from, int to) {
            int[] code = text.code;
            if (code == null || from < 0 || to > code.length) {
                return 0;
            }
            int size = 0;
            for (int i = from; i < to; i++) {
                int part = code[i];
                if (part >= Text.LAST_WORD) {
                    if (size < stack.length) {
                        stack[size] = part >= 0 ? part : words[Text.FIRST_WORD - part];
                        size++;
                    }
                } else if (part == Text.NOT) {
                    if (size > 0) {
                        stack[size - 1] = 1 - stack[size - 1];
                    }
                } else if (size > 1) {
                    size--;
                    stack[size - 1] = joined(part, stack[size - 1], stack[size]);
                }
            }
            return size > 0 ? stack[size - 1] : 1;
        }

        /** What an operator makes of two numbers; of what holds 1, of what doesn't 0. */
        private static long joined(int operator, long a, long b) {
            long sum;
            switch (operator) {
                case Text.LESS: return a < b ? 1 : 0;
                case Text.MORE: return a > b ? 1 : 0;
                case Text.LIKE: return a == b ? 1 : 0;
                case Text.AND: return a & b;
                case Text.OR: return a | b;
                case Text.PLUS: sum = a + b; break;
                case Text.MINUS: sum = a - b; break;
                default: sum = a * b; break;
            }
            return sum > MOST_SUM ? MOST_SUM : sum < -MOST_SUM ? -MOST_SUM : sum;
        }
    }

    /** The TAPE, and what reads it as a TEXT. A part that is read answers whether it has no FAULT. */
    private static final class TextReader {
        /** A TOKEN that is a sign is told by its byte, others by these, known words behind them. */
        private static final int END = 256;
        private static final int NUMBER = 257;
        private static final int LETTERS = 258;
        private static final int KNOWN = 259;

        /** Known words: first the KINDS by number, then these, then the WORDS by number. */
        private static final int IF = 8;
        private static final int AND = 9;
        private static final int OR = 10;
        private static final int NOT = 11;
        private static final int WORDS = 12;

        private static final int UNFIT = 1;
        private static final int WRONG_NUMBER = 2;
        private static final int NO_WORD = 3;
        private static final int TOO_MANY = 4;

        private final int[] tape = new int[MOST_BYTES];
        int length = 0;
        int fault = 0;
        int faultPlace = NONE;
        private final int[] code = new int[MOST_BYTES];
        private int codeLength = 0;
        private final int[] tokens = new int[MOST_BYTES + 1];
        /** Of each TOKEN its first byte, and the one behind it. */
        private final int[] starts = new int[MOST_BYTES + 1];
        private final int[] behinds = new int[MOST_BYTES + 1];
        private int tokenCount = 0;
        /** The TOKEN at hand: its number, what it is, its first byte, and the one behind it. */
        private int at = -1;
        private int token = END;
        private int start = 0;
        private int behind = 0;

        boolean hasSpaceFor(int bytes) {
            return bytes <= tape.length - length;
        }

        void append(int four) {
            for (int shift = 24; shift >= 0; shift -= 8) {
                if (within(length, 0, tape.length - 1)) {
                    tape[length] = four >>> shift & 255;
                    length++;
                }
            }
        }

        /** Fills a TEXT from the TAPE, that is empty then: whether there was no FAULT. */
        boolean fill(Text text) {
            splitTokens();
            fault = 0;
            faultPlace = NONE;
            codeLength = 0;
            at = -1;
            next();
            for (int i = 0; i <= MOST_STATEMENTS && fault == 0 && token != END; i++) {
                readStatement(text, i);
            }
            length = 0;
            if (fault == 0 && within(codeLength, 0, code.length)) {
                text.code = Arrays.copyOf(code, codeLength);
            }
            return fault == 0;
        }

        // -- TOKENS --

        private void splitTokens() {
            tokenCount = 0;
            int before = END;
            for (int i = 0; i < length && i < tape.length; i++) {
                int sort = sortOf(tape[i]);
                boolean isMore = sort == before && (sort == LETTERS || sort == NUMBER);
                if (isMore && within(tokenCount, 1, behinds.length)) {
                    behinds[tokenCount - 1] = i + 1;
                } else if (sort != END) {
                    addToken(sort, i, i + 1);
                }
                before = sort;
            }
            for (int i = 0; i < tokenCount && i < tokens.length; i++) {
                if (tokens[i] == LETTERS) {
                    tokens[i] = knownAs(starts[i], behinds[i]);
                }
            }
            addToken(END, length, length);
        }

        /** What a byte alone is as a TOKEN; END, as it ends one, for a blank. */
        private static int sortOf(int sign) {
            if (sign == 32 || sign == 10) {
                return END;
            }
            if (within(sign, 'a', 'z')) {
                return LETTERS;
            }
            return within(sign, '0', '9') ? NUMBER : sign;
        }

        private void addToken(int sort, int from, int to) {
            if (within(tokenCount, 0, tokens.length - 1)) {
                tokens[tokenCount] = sort;
                starts[tokenCount] = from;
                behinds[tokenCount] = to;
                tokenCount++;
            }
        }

        /** What a word is as a TOKEN. */
        private int knownAs(int from, int to) {
            for (int i = 0; i < WORDS + Text.WORDS; i++) {
                if (isSpelled(wordOf(i), from, to)) {
                    return KNOWN + i;
                }
            }
            return LETTERS;
        }

        private boolean isSpelled(String word, int from, int to) {
            if (to - from != word.length() || from < 0 || to > tape.length) {
                return false;
            }
            for (int i = 0; i < word.length(); i++) {
                if (tape[from + i] != word.charAt(i)) {
                    return false;
                }
            }
            return true;
        }

        private static String wordOf(int known) {
            switch (known) {
                case RENT: return "rent";
                case MOST: return "most";
                case LEAVE: return "leave";
                case KEEP: return "keep";
                case RANK: return "rank";
                case CREDIT: return "credit";
                case FINE: return "fine";
                case STRIKE: return "strike";
                case IF: return "if";
                case AND: return "and";
                case OR: return "or";
                case NOT: return "not";
                case WORDS + Text.ROOMS: return "rooms";
                case WORDS + Text.SIZE: return "size";
                case WORDS + Text.HEADS: return "heads";
                case WORDS + Text.AGE: return "age";
                case WORDS + Text.PAY: return "pay";
                case WORDS + Text.WEEKS: return "weeks";
                case WORDS + Text.DAY: return "day";
                case WORDS + Text.SAVED: return "saved";
                case WORDS + Text.DEBT: return "debt";
                default: return "arrears";
            }
        }

        private void next() {
            at++;
            boolean isThere = at >= 0 && at < tokenCount && at < tokens.length;
            token = isThere ? tokens[at] : END;
            start = isThere ? starts[at] : length;
            behind = isThere ? behinds[at] : length;
        }

        private boolean isKnown(int known) {
            return token == KNOWN + known;
        }

        private boolean fail(int kind) {
            fault = kind;
            faultPlace = start;
            return false;
        }

        private boolean skip(int wanted) {
            if (token != wanted) {
                return fail(UNFIT);
            }
            next();
            return true;
        }

        private void emit(int part) {
            if (codeLength >= 0 && codeLength < code.length) {
                code[codeLength] = part;
                codeLength++;
            }
        }

        // -- STATEMENTS --

        private boolean readStatement(Text text, int number) {
            int kind = token - KNOWN;
            if (!within(kind, RENT, STRIKE)) {
                return fail(UNFIT);
            }
            if (number >= MOST_STATEMENTS) {
                return fail(TOO_MANY);
            }
            next();
            if (kind == FINE && (token < LETTERS || behind - start > 8)) {
                return fail(UNFIT);
            }
            Statement s = new Statement(number, kind, kind == FINE ? readName() : 0);
            text.statements.add(s);
            if (kind == STRIKE) {
                return readStruck(text) && skip(';');
            }
            boolean read = readValue(s);
            if (read && isKnown(IF)) {
                next();
                read = readCond(0);
            }
            s.condTo = codeLength;
            return read && skip(';');
        }

        /** The letters of a NAME in one number: eight at most, a byte each. */
        private long readName() {
            long letters = 0;
            for (int i = start; i < behind && within(i, 0, tape.length - 1); i++) {
                letters = letters << 8 | tape[i];
            }
            next();
            return letters;
        }

        private boolean readStruck(Text text) {
            int struck = token - KNOWN;
            if (!within(struck, RENT, FINE)) {
                return fail(UNFIT);
            }
            text.strike(struck);
            next();
            return true;
        }

        private boolean readValue(Statement s) {
            s.valueFrom = codeLength;
            boolean read;
            switch (s.kind) {
                case MOST: read = readNumber(0, 100); break;
                case LEAVE: read = readNumber(0, 99); break;
                case FINE: read = readNumber(1, 9999); break;
                case KEEP: read = true; break;
                default: read = readSum(0); break;
            }
            s.condFrom = codeLength;
            return read;
        }

        private boolean readNumber(int least, int most) {
            if (token != NUMBER || behind - start > 4) {
                return fail(UNFIT);
            }
            int number = 0;
            for (int i = start; i < behind && within(i, 0, tape.length - 1); i++) {
                number = 10 * number + tape[i] - '0';
            }
            if (!within(number, least, most)) {
                return fail(WRONG_NUMBER);
            }
            emit(number);
            next();
            return true;
        }

        // -- COND and SUM: open is how many brackets are open about them; a fifth is refused --

        private boolean readCond(int open) {
            boolean read = readBoth(open);
            for (int i = 0; i < MOST_BYTES && read && isKnown(OR); i++) {
                next();
                read = readBoth(open);
                emit(Text.OR);
            }
            return read;
        }

        private boolean readBoth(int open) {
            boolean read = readPart(open);
            for (int i = 0; i < MOST_BYTES && read && isKnown(AND); i++) {
                next();
                read = readPart(open);
                emit(Text.AND);
            }
            return read;
        }

        private boolean readPart(int open) {
            int nots = 0;
            while (nots < MOST_BYTES && isKnown(NOT)) {
                next();
                nots++;
            }
            boolean read = token == '[' ? readBrackets(open) : readComparison(open);
            if (nots % 2 == 1) {
                emit(Text.NOT);
            }
            return read;
        }

        private boolean readBrackets(int open) {
            if (open >= MOST_BRACKETS) {
                return fail(TOO_MANY);
            }
            next();
            return readCond(open + 1) && skip(']');
        }

        private boolean readComparison(int open) {
            if (!readSum(open)) {
                return false;
            }
            int relation;
            switch (token) {
                case '<': relation = Text.LESS; break;
                case '>': relation = Text.MORE; break;
                case '=': relation = Text.LIKE; break;
                default: return fail(UNFIT);
            }
            next();
            boolean read = readSum(open);
            emit(relation);
            return read;
        }

        private boolean readSum(int open) {
            boolean read = readProduct(open);
            for (int i = 0; i < MOST_BYTES && read && (token == '+' || token == '-'); i++) {
                int operator = token == '+' ? Text.PLUS : Text.MINUS;
                next();
                read = readProduct(open);
                emit(operator);
            }
            return read;
        }

        private boolean readProduct(int open) {
            boolean read = readFactor(open);
            for (int i = 0; i < MOST_BYTES && read && token == '*'; i++) {
                next();
                read = readFactor(open);
                emit(Text.TIMES);
            }
            return read;
        }

        private boolean readFactor(int open) {
            if (token >= LETTERS) {
                int word = token - KNOWN - WORDS;
                if (word < 0) {
                    return fail(NO_WORD);
                }
                emit(Text.FIRST_WORD - word);
                next();
                return true;
            }
            if (token != '(') {
                return readNumber(0, 9999);
            }
            if (open >= MOST_BRACKETS) {
                return fail(TOO_MANY);
            }
            next();
            return readSum(open + 1) && skip(')');
        }
    }
}

/** Towns that several tests begin with. */
final class Towns {
    static final int LAST_DAY = 9999;

    private Towns() {
    }

    /** PERSONS with 2 HEADS, HOUSES with 2 ROOMS: a HOUSE has room for each of them. */
    static FirmTown of(int persons, int houses) {
        FirmTown x = new FirmTown();
        for (int i = 0; i < persons; i++) {
            x.person(2, 30);
        }
        for (int i = 0; i < houses; i++) {
            x.house(2, 1);
        }
        return x;
    }

    /** As many PERSONS with a POST, each let the HOUSE of its number. */
    static FirmTown housed(int persons) {
        FirmTown x = of(persons, persons);
        for (int i = 0; i < persons; i++) {
            x.post(i, 10 + i);
            x.asks(i);
            x.give(i);
        }
        return x;
    }

    /** A PERSON with 1 HEAD that has some pence (above 0) in PURSE on DAY 7. */
    static FirmTown withPurse(int pence) {
        FirmTown x = new FirmTown();
        x.person(1, 30);
        int earned = pence + 20;
        int hours = 84;
        while (earned % hours != 0) {
            hours--;
        }
        if (earned / hours > 200) {
            throw new IllegalArgumentException("not so much can be earned in a week");
        }
        x.post(0, earned / hours);
        x.hours(0, 0, hours);
        x.days(7);
        return x;
    }

    /** Days go by till TODAY is a DAY. */
    static void until(FirmTown x, int day) {
        int today = x.count(2);
        while (today < day) {
            today = x.days(Math.min(60, day - today));
        }
    }

    static void repeat(int times, Runnable call) {
        for (int i = 0; i < times; i++) {
            call.run();
        }
    }
}

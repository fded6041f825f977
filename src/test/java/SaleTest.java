import java.util.Random;

/** Promises 36 to 39: BIDS, THE BEST sale of some HOUSES, and a HOUSE that is SOLD. */
public final class SaleTest {
    public static void main(String[] args) {
        bids();
        wrongHouses();
        best();
        ofSeveral();
        highNumbers();
        sold();
        tenants();
        againstAll();
        Check.close("SaleTest");
    }

    private static FirmTown town(int persons, int houses) {
        FirmTown x = new FirmTown();
        for (int i = 0; i < persons; i++) {
            x.person(2, 30);
        }
        for (int i = 0; i < houses; i++) {
            x.house(2, 2);
        }
        return x;
    }

    private static void bids() {
        FirmTown x = town(2, 2);
        Check.due("no person", x.bid(2, 0, 1), false);
        Check.due("person -1", x.bid(-1, 0, 1), false);
        Check.due("no house", x.bid(0, 2, 1), false);
        Check.due("house -1", x.bid(0, -1, 1), false);
        Check.due("pence -1", x.bid(0, 0, -1), false);
        Check.due("pence 100001", x.bid(0, 0, 100001), false);
        Check.due("no bids", x.sells(1), 0);
        Check.due("to nobody", x.buyer(1, 0), -1);
        Check.due("pence 100000", x.bid(0, 0, 100000), true);
        Check.due("sum", x.sells(1), 100000);
        Check.due("a later bid", x.bid(0, 0, 1), true);
        Check.due("sum", x.sells(1), 1);
        Check.due("no bid more", x.bid(0, 0, 0), true);
        Check.due("sum", x.sells(1), 0);
        Check.due("nothing to be sold by", x.sold(0, 0), false);
        x.bid(0, 0, 7);
        x.sold(0, 0);
        Check.due("sold", x.bid(1, 0, 9), false);
    }

    private static void wrongHouses() {
        FirmTown x = town(1, 9);
        x.bid(0, 3, 5);
        Check.due("none", x.sells(0), -1);
        Check.due("eight", x.sells(255), -1);
        Check.due("seven", x.sells(127), 5);
        Check.due("house 9", x.sells(512), -1);
        Check.due("house 9 and another", x.sells(513), -1);
        Check.due("house 31", x.sells(Integer.MIN_VALUE), -1);
        Check.due("all", x.sells(-1), -1);
        Check.due("buyer of eight", x.buyer(255, 3), -1);
        Check.due("buyer of none", x.buyer(0, 3), -1);
        Check.due("buyer of another", x.buyer(1, 3), -1);
        Check.due("buyer of house -1", x.buyer(8, -1), -1);
        Check.due("buyer of house 35", x.buyer(8, 35), -1);
        Check.due("buyer", x.buyer(8, 3), 0);
        x.bid(0, 8, 4);
        x.sold(8, 0);
        Check.due("a sold one", x.sells(256 + 8), -1);
        Check.due("buyer with a sold one", x.buyer(256 + 8, 3), -1);
    }

    private static void best() {
        FirmTown x = town(3, 3);
        int[][] bids = {{9, 8, 7}, {9, 5, 1}, {9, 0, 0}};
        for (int p = 0; p < 3; p++) {
            for (int h = 0; h < 3; h++) {
                x.bid(p, h, bids[p][h]);
            }
        }
        Check.due("sum", x.sells(7), 9 + 7 + 5);
        Check.due("house 0", x.buyer(7, 0), 2);
        Check.due("house 1", x.buyer(7, 1), 1);
        Check.due("house 2", x.buyer(7, 2), 0);
        Check.due("sum of two", x.sells(3), 17);
        Check.due("house 0", x.buyer(3, 0), 1);
        Check.due("house 1", x.buyer(3, 1), 0);
        Check.due("sum of one", x.sells(4), 7);
    }

    private static void ofSeveral() {
        FirmTown x = town(4, 3);
        x.bid(1, 0, 5);
        x.bid(2, 0, 5);
        x.bid(1, 1, 5);
        x.bid(2, 1, 5);
        Check.due("sum", x.sells(3), 10);
        Check.due("the least at the first", x.buyer(3, 0), 1);
        Check.due("the other", x.buyer(3, 1), 2);
        x.bid(0, 1, 5);
        Check.due("the least", x.buyer(3, 1), 0);
        x = town(4, 3);
        x.bid(2, 0, 5);
        x.bid(2, 1, 5);
        Check.due("one of two", x.sells(3), 5);
        Check.due("none behind all", x.buyer(3, 0), 2);
        Check.due("none", x.buyer(3, 1), -1);
        x.bid(3, 0, 4);
        x.bid(2, 1, 1);
        Check.due("like sums", x.sells(3), 5);
        Check.due("the least at the first", x.buyer(3, 0), 2);
        Check.due("nobody", x.buyer(3, 1), -1);
    }

    private static void highNumbers() {
        FirmTown x = town(60, 30);
        int houses = 0;
        for (int i = 0; i < 7; i++) {
            houses |= 1 << 29 - i;
            x.bid(59 - i, 29 - i, 100000);
            x.bid(0, 29 - i, 99999);
        }
        Check.due("sum", x.sells(houses), 700000);
        for (int i = 0; i < 7; i++) {
            Check.due("buyer", x.buyer(houses, 29 - i), 59 - i);
        }
    }

    private static void sold() {
        FirmTown x = town(2, 2);
        x.bid(1, 0, 5);
        Check.due("no house", x.sold(2, 0), false);
        Check.due("house -1", x.sold(-1, 0), false);
        Check.due("no person", x.sold(0, 2), false);
        Check.due("person -1", x.sold(0, -1), false);
        Check.due("no bid", x.sold(0, 0), false);
        Check.due("another house", x.sold(1, 1), false);
        Check.due("sold", x.sold(0, 1), true);
        Check.due("twice", x.sold(0, 1), false);
        Check.due("state", x.houseOf(0, 2), 2);
        Check.due("to whom", x.houseOf(0, 3), 1);
        Check.due("who has none by it", x.of(1, 10), -1);
        Check.due("purse", x.of(1, 2), 0);
        x.bid(1, 1, 5);
        Check.due("a second house", x.sold(1, 1), true);
        Check.due("to whom", x.houseOf(1, 3), 1);
    }

    private static void tenants() {
        FirmTown x = town(2, 2);
        for (int i = 0; i < 2; i++) {
            x.post(i, 10);
            x.asks(i);
            x.give(i);
            x.bid(0, i, 5);
        }
        x.sold(0, 0);
        x.sold(1, 0);
        Check.due("has it on", x.of(0, 10), 0);
        Check.due("has it no more", x.of(1, 10), -1);
        Check.due("to whom", x.houseOf(1, 3), 0);
        Check.due("can ask", x.asks(1), 0);
        Check.due("can't ask", x.asks(0), -1);
        Check.due("rooms of a house that is sold", rooms(x), 2);
    }

    private static int rooms(FirmTown x) {
        Check.tell(x, 0, "rank rooms;");
        return x.value(4, 0, 0, 0);
    }

    /** Small sales against all ways in which they can go. */
    private static void againstAll() {
        Random random = new Random(7);
        for (int round = 0; round < 300; round++) {
            int persons = 1 + random.nextInt(5);
            int houses = 1 + random.nextInt(4);
            FirmTown x = town(persons, houses);
            int[][] bids = new int[persons][houses];
            for (int p = 0; p < persons; p++) {
                for (int h = 0; h < houses; h++) {
                    bids[p][h] = random.nextInt(4);
                    x.bid(p, h, bids[p][h]);
                }
            }
            int all = (1 << houses) - 1;
            int[] way = new int[houses];
            int[] best = null;
            int most = -1;
            for (int n = 0; n < Math.pow(persons + 1, houses); n++) {
                int rest = n;
                for (int h = houses - 1; h >= 0; h--) {
                    way[h] = rest % (persons + 1);
                    rest /= persons + 1;
                }
                int sum = sumOf(way, bids, persons);
                if (sum > most) {
                    most = sum;
                    best = way.clone();
                }
            }
            Check.due("sells", x.sells(all), most);
            for (int h = 0; h < houses; h++) {
                Check.due("buyer", x.buyer(all, h), best[h] == persons ? -1 : best[h]);
            }
        }
    }

    /** The sum of a way (persons: nobody); -1 if it can't be. */
    private static int sumOf(int[] way, int[][] bids, int persons) {
        int sum = 0;
        boolean[] has = new boolean[persons];
        for (int h = 0; h < way.length; h++) {
            int p = way[h];
            if (p < persons) {
                if (has[p] || bids[p][h] == 0) {
                    return -1;
                }
                has[p] = true;
                sum += bids[p][h];
            }
        }
        return sum;
    }
}

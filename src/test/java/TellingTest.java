import java.math.BigInteger;

/** Promises 15 to 19: purse, holds, asks, owned, count. */
public final class TellingTest {
    private static final int LOW = Integer.MIN_VALUE;
    private static final int HIGH = Integer.MAX_VALUE;
    private static final Checks CHECKS = new Checks();

    public static void main(String[] args) {
        purses();
        pursesOfNoSuchOnes();
        promisesKept();
        holdingsAsOfRounds();
        holdingsOfNoSuchOnes();
        askings();
        ownedThroughFunds();
        ownedOfNoSuchOnes();
        ownedWithLargeNumbers();
        counts();
        CHECKS.finish();
    }

    /** Work 0 of 100 at 10, work 1 of 60 at 1; people 0 to 2; fund 24 was given 300 by 0 and 600 by 1. */
    private static CouponSale sale() {
        CouponSale sale = new CouponSale();
        sale.work(100, 10);
        sale.work(60, 1);
        sale.person(-1);
        sale.person(-1);
        sale.person(-1);
        sale.fund(100);
        sale.give(0, 24, 300);
        sale.give(1, 24, 600);
        return sale;
    }

    private static void purses() {
        CouponSale sale = sale();
        sale.bid(0, 0, 10);
        sale.bid(0, 1, 3);
        sale.bid(24, 0, 20);
        CHECKS.due("points", sale.purse(0, 0), 700);
        CHECKS.due("cost", sale.purse(0, 1), 103);
        CHECKS.due("given, for people", sale.purse(0, 2), -1);
        CHECKS.due("kept, for people", sale.purse(0, 3), -1);
        CHECKS.due("held ahead of the end", sale.purse(0, 4), 0);
        CHECKS.due("points of a fund", sale.purse(24, 0), 900);
        CHECKS.due("cost of a fund", sale.purse(24, 1), 200);
        CHECKS.due("given of a fund", sale.purse(24, 2), 900);
        sale.close();
        CHECKS.due("points behind the end", sale.purse(0, 0), 597);
        CHECKS.due("cost behind the end", sale.purse(0, 1), 0);
        CHECKS.due("held of all works", sale.purse(0, 4), 13);
        CHECKS.due("points of the fund behind the end", sale.purse(24, 0), 700);
        CHECKS.due("given stays", sale.purse(24, 2), 900);
        CHECKS.due("held by the fund", sale.purse(24, 4), 20);
    }

    private static void pursesOfNoSuchOnes() {
        CouponSale sale = sale();
        int[] bidders = {-1, 3, 23, 25, 28, LOW, HIGH};
        for (int bidder : bidders) {
            CHECKS.dueThrow("purse " + bidder, () -> sale.purse(bidder, 0));
        }
        int[] whats = {-1, 5, LOW, HIGH};
        for (int what : whats) {
            CHECKS.dueThrow("purse 0, " + what, () -> sale.purse(0, what));
            CHECKS.dueThrow("purse 24, " + what, () -> sale.purse(24, what));
        }
    }

    private static void promisesKept() {
        CouponSale sale = sale();
        CHECKS.due("100 hundredths of points alone", sale.purse(24, 3), 1);
        sale.bid(24, 0, 50);
        sale.close();
        // 50 shares at 5 and 400 points are 650 of 900
        CHECKS.due("below at the new price", sale.purse(24, 3), 0);
        int[][] rows = {{72, 1}, {73, 0}, {0, 1}, {500, 0}};
        for (int[] row : rows) {
            CouponSale other = new CouponSale();
            other.work(100, 10);
            other.person(-1);
            other.fund(row[0]);
            other.give(0, 24, 900);
            other.bid(24, 0, 50);
            other.close();
            // 50 at 5 and 400: 650 is 72.2 hundredths of 900
            CHECKS.due("promise " + row[0], other.purse(24, 3), row[1]);
        }
        CouponSale edge = new CouponSale();
        edge.person(-1);
        edge.fund(101);
        edge.fund(100);
        edge.give(0, 24, 100);
        edge.give(0, 25, 100);
        CHECKS.due("one point too few", edge.purse(24, 3), 0);
        CHECKS.due("just as many", edge.purse(25, 3), 1);
        CouponSale empty = new CouponSale();
        empty.fund(500);
        CHECKS.due("of nothing given", empty.purse(24, 3), 1);
        largePromise();
    }

    /** 3000 shares bought at 1 and now at 9999: a hundred times their worth would be below 0 as an int. */
    private static void largePromise() {
        CouponSale sale = new CouponSale();
        for (int b = 0; b < 24; b++) {
            sale.person(-1);
        }
        sale.fund(500);
        for (int b = 0; b < 24; b++) {
            sale.give(b, 24, 1000);
        }
        for (int w = 0; w < 3; w++) {
            sale.work(1000, 1);
            sale.bid(24, w, 999);
        }
        sale.close();
        Checks.rules(sale, "least 9999;");
        sale.close();
        CHECKS.due("price", sale.about(2, 2), 9999);
        CHECKS.due("kept", sale.purse(24, 3), 1);
    }

    private static void holdingsAsOfRounds() {
        CouponSale sale = sale();
        sale.bid(0, 0, 10);
        CHECKS.due("ahead of all sales", sale.holds(0, 0, 0), 0);
        sale.close();
        sale.bid(0, 0, 5);
        sale.bid(2, 1, 5);
        sale.close();
        sale.work(7, 7);
        sale.person(-1);
        sale.close();
        int[] due = {0, 10, 15, 15};
        for (int round = 0; round < due.length; round++) {
            CHECKS.due("as of " + round, sale.holds(0, 0, round), due[round]);
            CHECKS.due("of a later work as of " + round, sale.holds(0, 2, round), 0);
            CHECKS.due("of a later one as of " + round, sale.holds(3, 0, round), 0);
        }
        CHECKS.due("of another work", sale.holds(0, 1, 3), 0);
        CHECKS.due("another one", sale.holds(2, 1, 2), 5);
        CHECKS.due("another one ahead", sale.holds(2, 1, 1), 0);
    }

    private static void holdingsOfNoSuchOnes() {
        CouponSale sale = sale();
        sale.close();
        int[][] wrong = {{-1, 0, 0}, {3, 0, 0}, {23, 0, 0}, {25, 0, 0}, {28, 0, 0}, {LOW, 0, 0}, {HIGH, 0, 0},
            {0, -1, 0}, {0, 2, 0}, {0, 10, 0}, {0, LOW, 0}, {0, HIGH, 0}, {0, 0, -1}, {0, 0, 2}, {0, 0, 50},
            {0, 0, LOW}, {0, 0, HIGH}};
        for (int[] h : wrong) {
            CHECKS.due("holds " + h[0] + ", " + h[1] + ", " + h[2], sale.holds(h[0], h[1], h[2]), -1);
        }
        CHECKS.due("as of the round now", sale.holds(24, 0, 1), 0);
    }

    private static void askings() {
        CouponSale sale = sale();
        sale.bid(1, 1, 4);
        sale.bid(24, 1, 6);
        CHECKS.due("asks of a person", sale.asks(1, 1), 4);
        CHECKS.due("asks of a fund", sale.asks(24, 1), 6);
        CHECKS.due("asks of another work", sale.asks(1, 0), 0);
        CHECKS.due("asks of another one", sale.asks(0, 1), 0);
        sale.close();
        CHECKS.due("asks behind the end", sale.asks(24, 1), 0);
    }

    private static void ownedThroughFunds() {
        CouponSale sale = sale();
        sale.bid(0, 0, 10);
        sale.bid(24, 0, 20);
        sale.bid(24, 1, 60);
        dueOwned(sale, 0, 0, 0, 0, 1);
        sale.close();
        // 10 + 20 / 3 of 100; 20 * 2 / 3 of 100; none
        dueOwned(sale, 0, 0, 1, 1, 6);
        dueOwned(sale, 1, 0, 1, 2, 15);
        dueOwned(sale, 2, 0, 1, 0, 1);
        dueOwned(sale, 0, 1, 1, 1, 3);
        dueOwned(sale, 1, 1, 1, 2, 3);
        sale.bid(2, 0, 2);
        sale.fund(0);
        sale.person(-1);
        sale.work(5, 1);
        sale.bid(2, 2, 5);
        sale.close();
        dueOwned(sale, 0, 0, 2, 1, 6);
        dueOwned(sale, 2, 0, 2, 1, 50);
        dueOwned(sale, 2, 0, 1, 0, 1);
        dueOwned(sale, 2, 2, 2, 1, 1);
        dueOwned(sale, 2, 2, 0, 0, 1);
        dueOwned(sale, 3, 2, 0, 0, 1);
        dueOwned(sale, 0, 0, 0, 0, 1);
    }

    private static void ownedOfNoSuchOnes() {
        CouponSale sale = sale();
        sale.close();
        int[][] wrong = {{-1, 0, 0, 0}, {3, 0, 0, 0}, {24, 0, 0, 0}, {LOW, 0, 0, 0}, {HIGH, 0, 0, 0}, {0, -1, 0, 0},
            {0, 2, 0, 0}, {0, LOW, 0, 0}, {0, HIGH, 0, 0}, {0, 0, -1, 0}, {0, 0, 2, 0}, {0, 0, LOW, 0},
            {0, 0, HIGH, 0}, {0, 0, 0, -1}, {0, 0, 0, 2}, {0, 0, 0, LOW}, {0, 0, 0, HIGH}};
        for (int[] o : wrong) {
            CHECKS.dueThrow("owned " + o[0] + ", " + o[1] + ", " + o[2] + ", " + o[3],
                () -> sale.owned(o[0], o[1], o[2], o[3]));
        }
        CHECKS.due("nothing changed", sale.count(0), 1);
    }

    /** Four funds with primes near 6000 points: the lower number is near the greatest that can be. */
    private static void ownedWithLargeNumbers() {
        int[] given = {5987, 5981, 5953, 5939};
        int[] bought = {101, 103, 107, 109};
        CouponSale sale = new CouponSale();
        sale.work(997, 1);
        for (int b = 0; b < 24; b++) {
            sale.person(-1);
        }
        int next = 1;
        for (int f = 0; f < 4; f++) {
            sale.fund(0);
            sale.give(0, 24 + f, 249);
            while (sale.purse(24 + f, 2) < given[f]) {
                int missing = given[f] - sale.purse(24 + f, 2);
                int points = Math.min(missing, sale.purse(next, 0));
                sale.give(next, 24 + f, points);
                next += sale.purse(next, 0) == 0 ? 1 : 0;
            }
            sale.bid(24 + f, 0, bought[f]);
        }
        sale.bid(0, 0, 4);
        CHECKS.due("sold", sale.close(), 424);
        BigInteger upper = BigInteger.valueOf(4);
        BigInteger lower = BigInteger.ONE;
        for (int f = 0; f < 4; f++) {
            BigInteger all = BigInteger.valueOf(given[f]);
            upper = upper.multiply(all).add(BigInteger.valueOf(249L * bought[f]).multiply(lower));
            lower = lower.multiply(all);
        }
        lower = lower.multiply(BigInteger.valueOf(997));
        BigInteger common = upper.gcd(lower);
        dueOwned(sale, 0, 0, 1, upper.divide(common).longValueExact(), lower.divide(common).longValueExact());
        CHECKS.due("it is large", lower.divide(common).bitLength() > 59 ? 1 : 0, 1);
    }

    private static void counts() {
        CouponSale sale = sale();
        sale.feed(0, 0, 0, 0, 0);
        sale.bid(0, 0, 10);
        sale.close();
        sale.bid(0, 1, 2);
        sale.close();
        int[] due = {2, 2, 3, 1, 12, 20};
        for (int what = 0; what < due.length; what++) {
            CHECKS.due("count " + what, sale.count(what), due[what]);
        }
        int[] wrong = {-1, 6, LOW, HIGH};
        for (int what : wrong) {
            CHECKS.due("count " + what, sale.count(what), -1);
        }
    }

    private static void dueOwned(CouponSale sale, int person, int w, int round, long upper, long lower) {
        String what = "owned " + person + ", " + w + ", " + round;
        CHECKS.due(what + ", upper", sale.owned(person, w, round, 0), upper);
        CHECKS.due(what + ", lower", sale.owned(person, w, round, 1), lower);
    }
}

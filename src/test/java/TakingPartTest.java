/** Promises 1 and 7 to 11: a new object, work, person, fund, give, bid; and asks (promise 17). */
public final class TakingPartTest {
    private static final int LOW = Integer.MIN_VALUE;
    private static final int HIGH = Integer.MAX_VALUE;
    private static final Checks CHECKS = new Checks();

    public static void main(String[] args) {
        aNewObjectIsEmpty();
        objectsAreApart();
        works();
        people();
        funds();
        gifts();
        giftsBesideBids();
        giftsAfterRound0();
        bids();
        bidsTakeThePlaceOfThoseAhead();
        bidsThatCostTooMuch();
        CHECKS.finish();
    }

    private static void aNewObjectIsEmpty() {
        CouponSale sale = new CouponSale();
        for (int what = 0; what <= 5; what++) {
            CHECKS.due("new: count " + what, sale.count(what), 0);
        }
        CHECKS.due("new: fault", sale.fault(), 0);
        CHECKS.due("new: rules", sale.rules(), 0);
        CHECKS.due("new: work 0", sale.about(0, 0), -1);
        CHECKS.due("new: price", sale.price(0, 0), -1);
        CHECKS.due("new: holds", sale.holds(0, 0, 0), -1);
        CHECKS.due("new: asks", sale.asks(0, 0), -1);
        CHECKS.due("new: bid", sale.bid(0, 0, 0), -1);
        CHECKS.dueThrow("new: purse of 0", () -> sale.purse(0, 0));
        CHECKS.dueThrow("new: purse of 24", () -> sale.purse(24, 0));
        CHECKS.dueThrow("new: owned", () -> sale.owned(0, 0, 0, 0));
        CHECKS.due("new: close", sale.close(), 0);
        CHECKS.due("new: round 1", sale.count(0), 1);
        CHECKS.due("NONE", CouponSale.NONE, -1);
    }

    private static void objectsAreApart() {
        CouponSale one = new CouponSale();
        Checks.rules(one, "workers 7;");
        one.work(5, 5);
        one.feed(1, 2, 3, 4, 5);
        CouponSale other = new CouponSale();
        CHECKS.due("another object's rule", other.rule(0), 10);
        CHECKS.due("another object's works", other.count(1), 0);
        CHECKS.due("another object's tape", other.count(5), 0);
    }

    private static void works() {
        CouponSale sale = new CouponSale();
        int[][] wrong = {{0, 1}, {1001, 1}, {1, 0}, {1, 10000}, {-1, 1}, {1, -1}, {LOW, 1}, {HIGH, 1}, {1, LOW}, {1, HIGH}};
        for (int[] numbers : wrong) {
            CHECKS.due("work " + numbers[0] + ", " + numbers[1], sale.work(numbers[0], numbers[1]), -1);
        }
        CHECKS.due("none so far", sale.count(1), 0);
        CHECKS.due("the least", sale.work(1, 1), 0);
        CHECKS.due("the greatest", sale.work(1000, 9999), 1);
        CHECKS.due("shares", sale.about(1, 0), 1000);
        CHECKS.due("all left", sale.about(1, 1), 1000);
        CHECKS.due("price", sale.about(1, 2), 9999);
        CHECKS.due("not asked for", sale.about(1, 3), 0);
        for (int w = 2; w < 10; w++) {
            CHECKS.due("work " + w, sale.work(1, 1), w);
        }
        CHECKS.due("an eleventh", sale.work(1, 1), -1);
        CHECKS.due("ten in all", sale.count(1), 10);
    }

    private static void people() {
        CouponSale sale = new CouponSale();
        CHECKS.due("worker of a work not yet there", sale.person(0), -1);
        CHECKS.due("of none", sale.person(-1), 0);
        sale.work(1, 1);
        CHECKS.due("worker of work 0", sale.person(0), 1);
        int[] wrong = {1, 9, 10, -2, LOW, HIGH};
        for (int worker : wrong) {
            CHECKS.due("worker of " + worker, sale.person(worker), -1);
        }
        CHECKS.due("two so far", sale.count(2), 2);
        for (int b = 2; b < 24; b++) {
            CHECKS.due("person " + b, sale.person(-1), b);
        }
        CHECKS.due("a 25th", sale.person(-1), -1);
        CHECKS.due("24 in all", sale.count(2), 24);
        CHECKS.due("points at first", sale.purse(23, 0), 1000);
        CHECKS.dueThrow("no fund by 25 people", () -> sale.purse(24, 0));
    }

    private static void funds() {
        CouponSale sale = new CouponSale();
        int[] wrong = {-1, 501, LOW, HIGH};
        for (int promise : wrong) {
            CHECKS.due("fund " + promise, sale.fund(promise), -1);
        }
        CHECKS.due("fund 0", sale.fund(0), 24);
        CHECKS.due("fund 500", sale.fund(500), 25);
        CHECKS.due("third", sale.fund(1), 26);
        CHECKS.due("fourth", sale.fund(1), 27);
        CHECKS.due("fifth", sale.fund(1), -1);
        CHECKS.due("four in all", sale.count(3), 4);
        CHECKS.due("no points at first", sale.purse(27, 0), 0);
        CHECKS.dueThrow("no fund 28", () -> sale.purse(28, 0));
    }

    private static void gifts() {
        CouponSale sale = new CouponSale();
        sale.person(-1);
        sale.person(-1);
        sale.fund(0);
        sale.fund(0);
        int[][] wrong = {{2, 24, 1}, {-1, 24, 1}, {24, 24, 1}, {0, 0, 1}, {0, 26, 1}, {0, 23, 1}, {0, 28, 1},
            {0, LOW, 1}, {0, HIGH, 1}, {LOW, 24, 1}, {HIGH, 24, 1}, {0, 24, 0}, {0, 24, -1}, {0, 24, LOW},
            {0, 24, 1001}, {0, 24, HIGH}};
        for (int[] g : wrong) {
            CHECKS.due("give " + g[0] + ", " + g[1] + ", " + g[2], sale.give(g[0], g[1], g[2]), -1);
        }
        CHECKS.due("none given", sale.purse(24, 2), 0);
        CHECKS.due("all kept", sale.purse(0, 0), 1000);
        CHECKS.due("give 1", sale.give(0, 24, 1), 1);
        CHECKS.due("give more", sale.give(0, 24, 399), 400);
        CHECKS.due("by another one", sale.give(1, 24, 50), 50);
        CHECKS.due("to another one", sale.give(0, 25, 600), 600);
        CHECKS.due("nothing is left", sale.give(0, 25, 1), -1);
        CHECKS.due("giver's points", sale.purse(0, 0), 0);
        CHECKS.due("fund's points", sale.purse(24, 0), 450);
        CHECKS.due("fund was given", sale.purse(24, 2), 450);
        CHECKS.due("other fund", sale.purse(25, 2), 600);
    }

    private static void giftsBesideBids() {
        CouponSale sale = new CouponSale();
        sale.work(100, 7);
        sale.person(0);
        sale.fund(0);
        sale.bid(0, 0, 100);
        CHECKS.due("beyond what bids cost", sale.give(0, 24, 301), -1);
        CHECKS.due("just that", sale.give(0, 24, 300), 300);
        CHECKS.due("nothing beyond", sale.give(0, 24, 1), -1);
        sale.bid(0, 0, 99);
        CHECKS.due("with a lesser bid", sale.give(0, 24, 7), 307);
    }

    private static void giftsAfterRound0() {
        CouponSale sale = new CouponSale();
        sale.person(-1);
        sale.fund(0);
        sale.close();
        CHECKS.due("give in round 1", sale.give(0, 24, 1), -1);
        CHECKS.due("none given", sale.purse(24, 0), 0);
        CHECKS.due("fund of round 1", sale.fund(3), 25);
        CHECKS.due("person of round 1", sale.person(-1), 1);
        CHECKS.due("work of round 1", sale.work(3, 4), 0);
    }

    private static void bids() {
        CouponSale sale = new CouponSale();
        sale.work(10, 1);
        sale.person(-1);
        sale.fund(0);
        int[][] wrong = {{1, 0, 0}, {23, 0, 0}, {25, 0, 0}, {28, 0, 0}, {-1, 0, 0}, {LOW, 0, 0}, {HIGH, 0, 0},
            {0, 1, 0}, {0, -1, 0}, {0, 10, 0}, {0, LOW, 0}, {0, HIGH, 0}, {0, 0, -1}, {0, 0, 1001}, {0, 0, LOW},
            {0, 0, HIGH}, {24, 0, 1}};
        for (int[] b : wrong) {
            CHECKS.due("bid " + b[0] + ", " + b[1] + ", " + b[2], sale.bid(b[0], b[1], b[2]), -1);
        }
        CHECKS.due("nothing asked", sale.about(0, 3), 0);
        CHECKS.due("more than there are", sale.bid(0, 0, 1000), 1000);
        CHECKS.due("asks", sale.asks(0, 0), 1000);
        CHECKS.due("a fund without points, none", sale.bid(24, 0, 0), 0);
        CHECKS.due("asks of a fund", sale.asks(24, 0), 0);
        int[][] noSuch = {{1, 0}, {23, 0}, {25, 0}, {28, 0}, {-1, 0}, {0, 1}, {0, -1}, {LOW, 0}, {0, HIGH}};
        for (int[] a : noSuch) {
            CHECKS.due("asks " + a[0] + ", " + a[1], sale.asks(a[0], a[1]), -1);
        }
    }

    private static void bidsTakeThePlaceOfThoseAhead() {
        CouponSale sale = new CouponSale();
        sale.work(10, 30);
        sale.work(10, 7);
        sale.person(-1);
        sale.person(-1);
        CHECKS.due("first", sale.bid(0, 0, 20), 600);
        CHECKS.due("of another work", sale.bid(0, 1, 10), 670);
        CHECKS.due("in the place of the first", sale.bid(0, 0, 31), 1000);
        CHECKS.due("cost", sale.purse(0, 1), 1000);
        CHECKS.due("another one's", sale.bid(1, 0, 3), 90);
        CHECKS.due("asked by all", sale.about(0, 3), 34);
        CHECKS.due("none any more", sale.bid(0, 0, 0), 70);
        CHECKS.due("asks none", sale.asks(0, 0), 0);
        CHECKS.due("asked by all", sale.about(0, 3), 3);
        CHECKS.due("points stay", sale.purse(0, 0), 1000);
    }

    private static void bidsThatCostTooMuch() {
        CouponSale sale = new CouponSale();
        sale.work(1000, 9999);
        sale.work(1000, 100);
        sale.person(-1);
        CHECKS.due("one share too dear", sale.bid(0, 0, 1), -1);
        CHECKS.due("all too dear", sale.bid(0, 0, 1000), -1);
        CHECKS.due("10 for 1000", sale.bid(0, 1, 10), 1000);
        CHECKS.due("11 for 1100", sale.bid(0, 1, 11), -1);
        CHECKS.due("the bid ahead stays", sale.asks(0, 1), 10);
        CHECKS.due("its cost stays", sale.purse(0, 1), 1000);
    }
}

/** Promises 12 to 14: close, about, price. */
public final class RoundEndTest {
    private static final int LOW = Integer.MIN_VALUE;
    private static final int HIGH = Integer.MAX_VALUE;
    private static final Checks CHECKS = new Checks();

    public static void main(String[] args) {
        workersComeFirst();
        workersAreCutBack();
        workersOfAnotherWorkAndOtherRounds();
        workersPayByTheShareRoundedUp();
        whatIsAskedIsHad();
        theEdgeOfCuttingBack();
        restsOfCuttingBack();
        askedTooMuch();
        pricesRiseAndFall();
        pricesWithinTheirBounds();
        hundredthsAreExact();
        pricesWithNoneLeft();
        bidsAreGone();
        roundsEndAt49();
        aboutWrongOnes();
        pricesOfRounds();
        CHECKS.finish();
    }

    /** A sale with one work, n people that are no workers, and the given rules. */
    private static CouponSale sale(String rules, int shares, int price, int people) {
        CouponSale sale = new CouponSale();
        CHECKS.due("rules " + rules, Checks.rules(sale, rules) >= 0 ? 1 : 0, 1);
        sale.work(shares, price);
        for (int b = 0; b < people; b++) {
            sale.person(-1);
        }
        return sale;
    }

    private static void workersComeFirst() {
        CouponSale sale = new CouponSale();
        sale.work(100, 10);
        sale.person(0);
        sale.person(-1);
        sale.bid(0, 0, 8);
        sale.bid(1, 0, 92);
        CHECKS.due("all sold", sale.close(), 100);
        CHECKS.due("worker paid half", sale.purse(0, 0), 1000 - 8 * 5);
        CHECKS.due("the other one paid all", sale.purse(1, 0), 1000 - 92 * 10);
        // 92 asked of the 92 behind the workers: the price stays as it is
        CHECKS.due("price by what was left behind the workers", sale.about(0, 2), 10);
        CHECKS.due("none left", sale.about(0, 1), 0);
        CHECKS.due("sold in all", sale.count(4), 100);
    }

    private static void workersAreCutBack() {
        CouponSale sale = new CouponSale();
        Checks.rules(sale, "workers 7;half 10;cut 0;");
        sale.work(100, 10);
        sale.person(0);
        sale.person(-1);
        sale.person(0);
        sale.bid(0, 0, 10);
        sale.bid(1, 0, 5);
        sale.bid(2, 0, 10);
        // RESERVE 7 of 20 asked: 3.5 each, the one over to the lesser BIDDER; the rest at the full price
        CHECKS.due("all sold", sale.close(), 25);
        CHECKS.due("worker 0", sale.purse(0, 0), 1000 - 4 * 1 - 6 * 10);
        CHECKS.due("no worker", sale.purse(1, 0), 1000 - 50);
        CHECKS.due("worker 2", sale.purse(2, 0), 1000 - 3 * 1 - 7 * 10);
        CHECKS.due("holds of worker 2", sale.holds(2, 0, 1), 10);
    }

    private static void workersOfAnotherWorkAndOtherRounds() {
        CouponSale sale = new CouponSale();
        sale.work(100, 10);
        sale.work(100, 10);
        sale.person(1);
        sale.bid(0, 0, 10);
        sale.close();
        CHECKS.due("worker of another work pays all", sale.purse(0, 0), 900);
        sale.bid(0, 1, 10);
        CHECKS.due("price of work 1 in round 1", sale.about(1, 2), 5);
        sale.close();
        CHECKS.due("round 1 knows no workers", sale.purse(0, 0), 850);
        CouponSale none = new CouponSale();
        Checks.rules(none, "workers 0;");
        none.work(100, 10);
        none.person(0);
        none.bid(0, 0, 10);
        none.close();
        CHECKS.due("no reserve", none.purse(0, 0), 900);
        CouponSale small = new CouponSale();
        small.work(9, 10);
        small.person(0);
        small.bid(0, 0, 9);
        small.close();
        CHECKS.due("a reserve cut to 0", small.purse(0, 0), 910);
    }

    private static void workersPayByTheShareRoundedUp() {
        CouponSale sale = new CouponSale();
        Checks.rules(sale, "workers 50;half 33;");
        sale.work(100, 7);
        sale.person(0);
        sale.bid(0, 0, 50);
        sale.close();
        // 7 * 33 / 100 = 2.31, so 3 a share
        CHECKS.due("paid by the share", sale.purse(0, 0), 850);
        // none was asked of the 50 left behind the workers
        CHECKS.due("price falls", sale.about(0, 2), 4);
        CouponSale one = new CouponSale();
        Checks.rules(one, "workers 50;half 1;");
        one.work(2, 1);
        one.person(0);
        one.bid(0, 0, 2);
        one.close();
        CHECKS.due("one point at least", one.purse(0, 0), 998);
    }

    private static void whatIsAskedIsHad() {
        CouponSale sale = sale("", 100, 3, 3);
        sale.fund(0);
        sale.give(2, 24, 60);
        sale.bid(0, 0, 50);
        sale.bid(1, 0, 30);
        sale.bid(24, 0, 20);
        CHECKS.due("just all", sale.close(), 100);
        CHECKS.due("holds 0", sale.holds(0, 0, 1), 50);
        CHECKS.due("holds 1", sale.holds(1, 0, 1), 30);
        CHECKS.due("holds 24", sale.holds(24, 0, 1), 20);
        CHECKS.due("points of the fund", sale.purse(24, 0), 0);
        CHECKS.due("price stays", sale.about(0, 2), 3);
        CouponSale single = sale("", 10, 3, 3);
        single.bid(2, 0, 1);
        CHECKS.due("one share asked by one", single.close(), 1);
        CHECKS.due("that one has it", single.holds(2, 0, 1), 1);
        CHECKS.due("nobody else has", single.purse(0, 4), 0);
    }

    private static void theEdgeOfCuttingBack() {
        // LEFT 10, cut 25: up to 2 too many (2.5, cut)
        CouponSale at = sale("", 10, 10, 2);
        at.bid(0, 0, 6);
        at.bid(1, 0, 6);
        CHECKS.due("two too many", at.close(), 10);
        CHECKS.due("halves", at.holds(0, 0, 1), 5);
        CHECKS.due("price for 12 of 10", at.about(0, 2), 12);
        CouponSale over = sale("", 10, 10, 2);
        over.bid(0, 0, 6);
        over.bid(1, 0, 7);
        CHECKS.due("three too many", over.close(), 0);
        CHECKS.due("all left", over.about(0, 1), 10);
        CHECKS.due("price for 13 of 10", over.about(0, 2), 13);
        CHECKS.due("nobody paid", over.purse(1, 0), 1000);
        CouponSale never = sale("cut 0;", 10, 10, 1);
        never.bid(0, 0, 11);
        CHECKS.due("with cut 0", never.close(), 0);
        CouponSale much = sale("cut 300;", 10, 1, 1);
        much.bid(0, 0, 40);
        CHECKS.due("with cut 300", much.close(), 10);
        CHECKS.due("rise at most", much.about(0, 2), 2);
    }

    private static void restsOfCuttingBack() {
        // 10 of 12: 7 -> 5.83, 3 -> 2.5, 2 -> 1.67: the two over to 0 and 2
        CouponSale sale = sale("", 10, 10, 3);
        sale.bid(0, 0, 7);
        sale.bid(1, 0, 3);
        sale.bid(2, 0, 2);
        CHECKS.due("all sold", sale.close(), 10);
        CHECKS.due("7 asked", sale.holds(0, 0, 1), 6);
        CHECKS.due("3 asked", sale.holds(1, 0, 1), 2);
        CHECKS.due("2 asked", sale.holds(2, 0, 1), 2);
        CHECKS.due("paid for what one has", sale.purse(1, 0), 980);
        // 10 of 12, 4 each: 3.33 each, the one over to the lesser BIDDER, ahead of the fund
        CouponSale like = sale("", 10, 10, 3);
        like.fund(0);
        like.give(0, 24, 40);
        like.bid(24, 0, 4);
        like.bid(2, 0, 4);
        like.bid(1, 0, 4);
        like.close();
        CHECKS.due("lesser one of like rests", like.holds(1, 0, 1), 4);
        CHECKS.due("greater one of like rests", like.holds(2, 0, 1), 3);
        CHECKS.due("fund", like.holds(24, 0, 1), 3);
        CHECKS.due("fund's points", like.purse(24, 0), 10);
    }

    private static void askedTooMuch() {
        CouponSale sale = sale("", 10, 10, 2);
        sale.work(10, 10);
        sale.bid(0, 0, 50);
        sale.bid(1, 0, 1);
        sale.bid(1, 1, 3);
        CHECKS.due("one work sold, one not", sale.close(), 3);
        CHECKS.due("rise at most twice", sale.about(0, 2), 20);
        CHECKS.due("round goes on", sale.count(0), 1);
    }

    private static void pricesRiseAndFall() {
        // 7 asked of 10 at 13: 9.1, so 10; fall 50 is 6.5, so 7
        CouponSale sale = sale("", 10, 13, 1);
        sale.bid(0, 0, 7);
        sale.close();
        CHECKS.due("rounded up", sale.about(0, 2), 10);
        // none asked of 3 at 10
        sale.close();
        CHECKS.due("fall at most to half", sale.about(0, 2), 5);
        sale.close();
        CHECKS.due("half, rounded up", sale.about(0, 2), 3);
        // 3 asked of 3: stays
        sale.bid(0, 0, 3);
        CHECKS.due("the last ones", sale.close(), 3);
        CHECKS.due("stays", sale.about(0, 2), 3);
    }

    private static void pricesWithinTheirBounds() {
        CouponSale rise = sale("rise 133;cut 0;", 10, 7, 1);
        rise.bid(0, 0, 100);
        rise.close();
        // 7 * 133 / 100 = 9.31
        CHECKS.due("rise, cut", rise.about(0, 2), 9);
        CouponSale still = sale("rise 100;fall 100;", 10, 7, 1);
        still.bid(0, 0, 100);
        still.close();
        CHECKS.due("rise 100", still.about(0, 2), 7);
        still.close();
        CHECKS.due("fall 100", still.about(0, 2), 7);
        CouponSale fall = sale("fall 1;", 10, 150, 1);
        fall.close();
        CHECKS.due("fall 1, rounded up", fall.about(0, 2), 2);
        CouponSale least = sale("least 90;", 10, 100, 1);
        least.close();
        CHECKS.due("least", least.about(0, 2), 90);
        CouponSale above = sale("least 300;rise 150;", 10, 100, 1);
        above.close();
        CHECKS.due("least goes above the rise", above.about(0, 2), 300);
        CouponSale most = sale("rise 999;cut 0;", 1, 6000, 24);
        most.fund(0);
        for (int b = 0; b < 24; b++) {
            most.give(b, 24, 1000);
        }
        most.bid(24, 0, 4);
        most.close();
        CHECKS.due("9999 at most", most.about(0, 2), 9999);
    }

    /** Numbers for which a part by 99 or by 101 would be another one. */
    private static void hundredthsAreExact() {
        CouponSale reserve = new CouponSale();
        Checks.rules(reserve, "workers 1;");
        reserve.work(198, 10);
        reserve.person(0);
        reserve.bid(0, 0, 5);
        reserve.close();
        CHECKS.due("a reserve of 1.98", reserve.purse(0, 0), 1000 - 5 - 40);
        CouponSale half = new CouponSale();
        Checks.rules(half, "workers 50;");
        half.work(2, 202);
        half.person(0);
        half.bid(0, 0, 1);
        half.close();
        CHECKS.due("half of 202", half.purse(0, 0), 899);
        CHECKS.due("fall of 202", half.about(0, 2), 101);
        CouponSale cut = sale("cut 1;", 198, 1, 1);
        cut.bid(0, 0, 200);
        CHECKS.due("two above 198", cut.close(), 0);
        cut.bid(0, 0, 199);
        CHECKS.due("one above 198", cut.close(), 198);
        CouponSale rise = sale("rise 100;", 1, 99, 1);
        rise.bid(0, 0, 10);
        rise.close();
        CHECKS.due("rise of 99", rise.about(0, 2), 99);
    }

    private static void pricesWithNoneLeft() {
        CouponSale sale = sale("", 10, 10, 2);
        sale.bid(0, 0, 10);
        sale.close();
        Checks.rules(sale, "least 77;");
        sale.bid(1, 0, 50);
        CHECKS.due("none to sell", sale.close(), 0);
        CHECKS.due("price stays, least too", sale.about(0, 2), 10);
        CHECKS.due("nobody paid", sale.purse(1, 0), 1000);
        CHECKS.due("bids are gone all the same", sale.asks(1, 0), 0);
        CHECKS.due("held as ahead", sale.holds(0, 0, 2), 10);
    }

    private static void bidsAreGone() {
        CouponSale sale = sale("cut 0;", 10, 10, 1);
        sale.work(20, 4);
        sale.bid(0, 0, 20);
        sale.bid(0, 1, 5);
        sale.close();
        CHECKS.due("asks of the unsold one", sale.asks(0, 0), 0);
        CHECKS.due("asks of the sold one", sale.asks(0, 1), 0);
        CHECKS.due("asked by all", sale.about(0, 3), 0);
        CHECKS.due("cost", sale.purse(0, 1), 0);
        CHECKS.due("sold next", sale.close(), 0);
    }

    private static void roundsEndAt49() {
        CouponSale sale = sale("fall 100;", 100, 1, 1);
        for (int round = 0; round < 49; round++) {
            CHECKS.due("round", sale.count(0), round);
            sale.bid(0, 0, 1);
            CHECKS.due("close of round " + round, sale.close(), 1);
        }
        sale.bid(0, 0, 1);
        CHECKS.due("round 49 does not end", sale.close(), -1);
        CHECKS.due("it stays", sale.count(0), 49);
        CHECKS.due("its bids stay", sale.asks(0, 0), 1);
        CHECKS.due("held as of 49", sale.holds(0, 0, 49), 49);
        CHECKS.due("held as of 48", sale.holds(0, 0, 48), 48);
        CHECKS.due("price in 49", sale.price(0, 49), 1);
        CHECKS.due("price in 50", sale.price(0, 50), -1);
        CHECKS.due("a work of round 49", sale.work(5, 6), 1);
        CHECKS.due("its price", sale.price(1, 49), 6);
        CHECKS.due("its price ahead", sale.price(1, 48), -1);
        CHECKS.due("sold in all", sale.count(4), 49);
    }

    private static void aboutWrongOnes() {
        CouponSale sale = sale("", 10, 10, 1);
        int[][] wrong = {{-1, 0}, {1, 0}, {10, 0}, {LOW, 0}, {HIGH, 0}, {0, -1}, {0, 4}, {0, LOW}, {0, HIGH}};
        for (int[] a : wrong) {
            CHECKS.due("about " + a[0] + ", " + a[1], sale.about(a[0], a[1]), -1);
        }
    }

    private static void pricesOfRounds() {
        CouponSale sale = sale("", 10, 100, 1);
        sale.close();
        sale.close();
        sale.work(10, 40);
        sale.close();
        int[][] due = {{0, 0, 100}, {0, 1, 50}, {0, 2, 25}, {0, 3, 13}, {0, 4, -1}, {0, -1, -1}, {0, LOW, -1},
            {0, HIGH, -1}, {1, 0, -1}, {1, 1, -1}, {1, 2, 40}, {1, 3, 20}, {1, 4, -1}, {2, 0, -1}, {2, 3, -1},
            {-1, 0, -1}, {LOW, 0, -1}, {HIGH, 0, -1}};
        for (int[] p : due) {
            CHECKS.due("price " + p[0] + ", " + p[1], sale.price(p[0], p[1]), p[2]);
        }
    }
}

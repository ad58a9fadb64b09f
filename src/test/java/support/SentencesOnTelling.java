/** Promises 13 to 19: about, price, purse, holds, asks, owned, count. */
final class SentencesOnTelling {
    private SentencesOnTelling() {
    }

    @Says(where = "Promise 13",
        words = "Of WORK w: 0 SHARES, 1 those LEFT, 2 PRICE now, 3 what is asked by all BIDS now.")
    static void aboutTellsOfAWork(Checks checks) {
        CouponSale sale = Sales.small();
        // WORK 0: 16 of 20 asked at 10; WORK 1: 11 of 30 at 3
        int[][] due = {{20, 4, 8, 2}, {30, 19, 2, 5}};
        for (int w = 0; w < 2; w++) {
            for (int what = 0; what < 4; what++) {
                checks.due("about " + w + ", " + what, sale.about(w, what), due[w][what]);
            }
        }
        sale.bid(24, 0, 1);
        checks.due("asked by all then", sale.about(0, 3), 3);
        sale.bid(1, 0, 0);
        checks.due("asked by all without the one ahead", sale.about(0, 3), 1);
    }

    @Says(where = "Promise 13", words = "NONE: no such WORK, or another what.")
    static void aboutIsNoneForNoSuchOnes(Checks checks) {
        int[][] wrong = {{2, 0}, {3, 0}, {9, 1}, {10, 2}, {-1, 3}, {Sales.LOW, 0}, {Sales.HIGH, 0}, {0, 4}, {0, 5},
            {0, -1}, {1, Sales.LOW}, {1, Sales.HIGH}};
        CouponSale sale = Sales.small();
        for (int[] a : wrong) {
            checks.due("about " + a[0] + ", " + a[1], sale.about(a[0], a[1]), -1);
        }
    }

    @Says(where = "Promise 14", words = "PRICE of WORK w in a ROUND up to this one")
    static void priceInARoundUpToThisOne(Checks checks) {
        CouponSale sale = Sales.of("fall 99;", 10, 9999, 1);
        sale.work(10, 5);
        int price = 9999;
        int[] due = new int[50];
        for (int round = 0; round <= 49; round++) {
            due[round] = price;
            checks.due("PRICE in this ROUND", sale.price(0, round), price);
            checks.due("PRICE in the next ROUND", sale.price(0, round + 1), -1);
            price = (price * 99 + 99) / 100;
            sale.close();
        }
        for (int round = 0; round <= 49; round++) {
            checks.due("PRICE in ROUND " + round, sale.price(0, round), due[round]);
        }
        checks.due("PRICE of WORK 1 at first", sale.price(1, 0), 5);
        int[] notYet = {50, 51, Sales.HIGH};
        for (int round : notYet) {
            checks.due("PRICE in ROUND " + round, sale.price(0, round), -1);
        }
    }

    @Says(where = "Promise 14", words = "(NONE: it was not yet there then, no such one).")
    static void priceIsNoneWhereItWasNotYetThere(Checks checks) {
        CouponSale sale = Sales.of("", 10, 100, 1);
        sale.close();
        sale.close();
        sale.work(10, 40);
        checks.due("in its first ROUND", sale.price(1, 2), 40);
        checks.due("in the ROUND ahead of it", sale.price(1, 1), -1);
        checks.due("in ROUND 0", sale.price(1, 0), -1);
        sale.close();
        checks.due("still none in ROUND 1", sale.price(1, 1), -1);
        checks.due("PRICE of its second ROUND", sale.price(1, 3), 20);
        int[][] wrong = {{2, 0}, {2, 3}, {9, 0}, {10, 0}, {-1, 0}, {Sales.LOW, 0}, {Sales.HIGH, 0}, {0, -1},
            {0, Sales.LOW}, {0, 4}, {0, Sales.HIGH}};
        for (int[] p : wrong) {
            checks.due("price " + p[0] + ", " + p[1], sale.price(p[0], p[1]), -1);
        }
    }

    @Says(where = "Promise 15", words = "Of a BIDDER: 0 POINTS, 1 what all BIDS COST,")
    static void purseTellsPointsAndCost(Checks checks) {
        CouponSale sale = Sales.small();
        // 2 to the worker for 4 each, 5 for 10 each
        checks.due("POINTS of 0", sale.purse(0, 0), 900 - 8 - 50);
        checks.due("POINTS of 1", sale.purse(1, 0), 800 - 33);
        checks.due("POINTS of 24", sale.purse(24, 0), 300 - 90);
        checks.due("COST of 0", sale.purse(0, 1), 0);
        checks.due("COST of 1, at PRICES now", sale.purse(1, 1), 16);
        checks.due("COST of 24, at PRICES now", sale.purse(24, 1), 10);
        sale.bid(24, 0, 3);
        checks.due("COST of two BIDS", sale.purse(24, 1), 34);
        checks.due("POINTS stay till the ROUND ends", sale.purse(24, 0), 210);
    }

    @Says(where = "Promise 15", words = "2 of a FUND what it was GIVEN, 3 of a FUND 1 if its PROMISE is KEPT, 0 not")
    static void purseTellsWhatAFundWasGivenAndIfItsPromiseIsKept(Checks checks) {
        CouponSale sale = Sales.small();
        checks.due("GIVEN", sale.purse(24, 2), 300);
        // 9 at 8 and 210 are 282 of 300, 94 hundredths
        checks.due("KEPT", sale.purse(24, 3), 1);
        sale.close();
        sale.close();
        // 9 at 4 and 200 and 5 at 1 are 241
        checks.due("GIVEN stays", sale.purse(24, 2), 300);
        checks.due("not KEPT", sale.purse(24, 3), 0);
        checks.due("a FUND without gifts", sale.fund(500), 25);
        checks.due("GIVEN nothing", sale.purse(25, 2), 0);
        checks.due("KEPT of nothing", sale.purse(25, 3), 1);
    }

    @Says(where = "Promise 15", words = "(both NONE for PEOPLE),")
    static void purseOfAFundIsNoneForPeople(Checks checks) {
        CouponSale sale = new CouponSale();
        Sales.addPeople(sale, 24);
        sale.fund(0);
        sale.give(0, 24, 10);
        int[] people = {0, 1, 23};
        for (int person : people) {
            checks.due("GIVEN", sale.purse(person, 2), -1);
            checks.due("KEPT", sale.purse(person, 3), -1);
        }
        checks.due("GIVEN of a FUND", sale.purse(24, 2), 10);
        checks.due("KEPT of a FUND", sale.purse(24, 3), 1);
    }

    @Says(where = "Promise 15", words = "4 SHARES that one holds of all WORKS.")
    static void purseTellsSharesOfAllWorks(Checks checks) {
        CouponSale sale = new CouponSale();
        Sales.addPeople(sale, 2);
        sale.fund(0);
        sale.give(1, 24, 100);
        for (int w = 0; w < 10; w++) {
            sale.work(20, 1);
            sale.bid(0, w, w + 1);
        }
        sale.bid(24, 3, 7);
        checks.due("ahead of the end", sale.purse(0, 4), 0);
        sale.close();
        checks.due("1 to 10 of ten WORKS", sale.purse(0, 4), 55);
        checks.due("none", sale.purse(1, 4), 0);
        checks.due("of a FUND", sale.purse(24, 4), 7);
        sale.bid(0, 9, 2);
        sale.close();
        checks.due("two more", sale.purse(0, 4), 57);
    }

    @Says(where = "Promise 15", words = "NoSuchElementException: no such one, or another what.")
    static void purseThrowsForNoSuchOnes(Checks checks) {
        CouponSale sale = Sales.small();
        int[] bidders = {2, 3, 23, 25, 26, 27, 28, -1, Sales.LOW, Sales.HIGH};
        for (int bidder : bidders) {
            for (int what = 0; what <= 4; what++) {
                int asked = what;
                checks.dueThrow("purse " + bidder + ", " + what, () -> sale.purse(bidder, asked));
            }
        }
        int[] whats = {-1, 5, 6, Sales.LOW, Sales.HIGH};
        int[] there = {0, 1, 24};
        for (int what : whats) {
            for (int bidder : there) {
                checks.dueThrow("purse " + bidder + ", " + what, () -> sale.purse(bidder, what));
            }
        }
    }

    @Says(where = "Promise 16", words = "SHARES of WORK w that a BIDDER held AS OF a ROUND;")
    static void holdsAsOfARound(Checks checks) {
        CouponSale sale = Sales.of("fall 100;", 100, 1, 2);
        sale.work(100, 1);
        sale.fund(0);
        sale.give(1, 24, 100);
        for (int round = 0; round < 49; round++) {
            sale.bid(0, 0, 1);
            sale.bid(24, 1, 2);
            checks.due("AS OF the ROUND now", sale.holds(0, 0, round), round);
            sale.close();
        }
        for (int round = 0; round <= 49; round++) {
            checks.due("0 AS OF " + round, sale.holds(0, 0, round), round);
            checks.due("24 AS OF " + round, sale.holds(24, 1, round), 2 * round);
        }
        checks.due("none of another WORK", sale.holds(0, 1, 49), 0);
        checks.due("none of another one", sale.holds(1, 0, 49), 0);
        // who and what comes later is there, and held nothing then
        sale.work(5, 5);
        sale.person(CouponSale.NONE);
        sale.fund(0);
        checks.due("of a later WORK", sale.holds(0, 2, 3), 0);
        checks.due("a later one of PEOPLE", sale.holds(2, 0, 3), 0);
        checks.due("a later FUND", sale.holds(25, 0, 0), 0);
    }

    @Says(where = "Promise 16", words = "NONE: no such ones, or a ROUND that is not yet.")
    static void holdsIsNoneForNoSuchOnes(Checks checks) {
        CouponSale sale = Sales.small();
        int[][] wrong = {{2, 0, 0}, {23, 0, 0}, {25, 0, 0}, {28, 0, 0}, {-1, 0, 0}, {Sales.LOW, 0, 0},
            {Sales.HIGH, 0, 0}, {0, 2, 0}, {0, 9, 0}, {0, 10, 0}, {0, -1, 0}, {0, Sales.LOW, 0}, {0, Sales.HIGH, 0},
            {0, 0, 2}, {0, 0, 49}, {0, 0, 50}, {0, 0, Sales.HIGH}, {0, 0, -1}, {0, 0, Sales.LOW}};
        for (int[] h : wrong) {
            checks.due("holds " + h[0] + ", " + h[1] + ", " + h[2], sale.holds(h[0], h[1], h[2]), -1);
        }
        checks.due("AS OF this ROUND", sale.holds(0, 0, 1), 7);
        checks.due("AS OF ROUND 0", sale.holds(0, 0, 0), 0);
    }

    @Says(where = "Promise 17", words = "What a BIDDER asks of WORK w now;")
    static void asksTellsWhatABidderAsks(Checks checks) {
        CouponSale sale = Sales.small();
        checks.due("a BID of the ROUND ahead", sale.asks(0, 0), 0);
        checks.due("a BID of 1", sale.asks(1, 0), 2);
        checks.due("none of 1", sale.asks(1, 1), 0);
        checks.due("a BID of 24", sale.asks(24, 1), 5);
        sale.bid(1, 0, 4);
        checks.due("a new one", sale.asks(1, 0), 4);
        sale.bid(1, 0, 0);
        checks.due("none any more", sale.asks(1, 0), 0);
    }

    @Says(where = "Promise 17", words = "NONE: no such ones.")
    static void asksIsNoneForNoSuchOnes(Checks checks) {
        CouponSale sale = Sales.small();
        int[][] wrong = {{2, 0}, {23, 0}, {25, 0}, {28, 0}, {-1, 0}, {Sales.LOW, 0}, {Sales.HIGH, 0}, {0, 2}, {0, 9},
            {0, 10}, {0, -1}, {0, Sales.LOW}, {0, Sales.HIGH}, {24, 2}};
        for (int[] a : wrong) {
            checks.due("asks " + a[0] + ", " + a[1], sale.asks(a[0], a[1]), -1);
        }
    }

    @Says(where = "Promise 18", words = "OWNED by one of PEOPLE of WORK w AS OF a ROUND.")
    static void ownedTellsUpperAndLower(Checks checks) {
        CouponSale sale = Sales.small();
        // 0: 7 and 9 / 3 of 20; 1: 9 * 2 / 3 of 20, and 11 of 30
        long[][] due = {{0, 0, 0, 0, 1}, {0, 0, 1, 1, 2}, {1, 0, 1, 3, 10}, {0, 1, 1, 0, 1}, {1, 1, 1, 11, 30},
            {1, 1, 0, 0, 1}};
        for (long[] row : due) {
            checks.due("upper", sale.owned((int) row[0], (int) row[1], (int) row[2], 0), row[3]);
            checks.due("lower", sale.owned((int) row[0], (int) row[1], (int) row[2], 1), row[4]);
        }
    }

    @Says(where = "Promise 18", words = "NoSuchElementException: no such ones, a ROUND that is not yet, or another what.")
    static void ownedThrowsForNoSuchOnes(Checks checks) {
        CouponSale sale = Sales.small();
        int[][] wrong = {{2, 0, 0, 0}, {23, 0, 0, 0}, {24, 0, 0, 0}, {25, 0, 0, 0}, {-1, 0, 0, 0},
            {Sales.LOW, 0, 0, 0}, {Sales.HIGH, 0, 0, 0}, {0, 2, 0, 0}, {0, 9, 0, 0}, {0, 10, 0, 0}, {0, -1, 0, 0},
            {0, Sales.LOW, 0, 0}, {0, Sales.HIGH, 0, 0}, {0, 0, 2, 0}, {0, 0, 50, 0}, {0, 0, Sales.HIGH, 0},
            {0, 0, -1, 0}, {0, 0, Sales.LOW, 0}, {0, 0, 0, 2}, {0, 0, 0, -1}, {0, 0, 0, Sales.LOW},
            {0, 0, 0, Sales.HIGH}};
        for (int[] o : wrong) {
            checks.dueThrow("owned " + o[0] + ", " + o[1] + ", " + o[2] + ", " + o[3],
                () -> sale.owned(o[0], o[1], o[2], o[3]));
        }
    }

    @Says(where = "Promise 19", words = "0 ROUND, 1 WORKS, 2 PEOPLE, 3 FUNDS, 4 SHARES sold in all, 5 bytes of the tape.")
    static void countTellsHowManyThereAre(Checks checks) {
        CouponSale sale = Sales.small();
        int[] due = {1, 2, 2, 1, 27, 20};
        for (int what = 0; what < due.length; what++) {
            checks.due("count " + what, sale.count(what), due[what]);
        }
        sale.close();
        checks.due("ROUND then", sale.count(0), 2);
        checks.due("sold in all then", sale.count(4), 34);
    }

    @Says(where = "Promise 19", words = "NONE for another what.")
    static void countIsNoneForAnotherWhat(Checks checks) {
        CouponSale sale = Sales.small();
        int[] others = {-1, 6, 7, Sales.LOW, Sales.HIGH};
        for (int what : others) {
            checks.due("count " + what, sale.count(what), -1);
        }
    }
}

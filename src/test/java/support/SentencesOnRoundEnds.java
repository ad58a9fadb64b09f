/** "Terms": how a ROUND ends. */
final class SentencesOnRoundEnds {
    private SentencesOnRoundEnds() {
    }

    @Says(where = "Terms", words = "A ROUND ends, WORK by WORK; those with LEFT ones:")
    static void workByWorkThoseWithLeftOnes(Checks checks) {
        CouponSale sale = Sales.of("cut 0;", 4, 10, 2);
        sale.work(4, 20);
        sale.work(1, 30);
        sale.bid(0, 0, 4);
        sale.bid(0, 1, 5);
        sale.bid(1, 2, 1);
        checks.due("sold of WORKS 0 and 2, not of 1", sale.close(), 5);
        checks.due("paid for WORK 0 alone", sale.purse(0, 0), 960);
        checks.due("paid for WORK 2", sale.purse(1, 0), 970);
        checks.due("PRICE of WORK 1 by its own BIDS", sale.about(1, 2), 25);
        sale.bid(1, 0, 4);
        sale.bid(1, 1, 2);
        checks.due("none sold of WORK 0, which has none LEFT", sale.close(), 2);
        checks.due("holds of WORK 0", sale.holds(1, 0, 2), 0);
        checks.due("paid for WORK 1 alone", sale.purse(1, 0), 970 - 2 * 25);
    }

    @Says(where = "Terms", words = "In ROUND 0, first the workers of it:")
    static void inRound0TheWorkersComeFirst(Checks checks) {
        CouponSale sale = Sales.ofWorkers("workers 50;cut 0;", 10, 10, 1);
        sale.bid(0, 0, 5);
        sale.bid(1, 0, 6);
        checks.due("the worker's alone: 6 are too many for 5", sale.close(), 5);
        checks.due("the worker has them", sale.holds(0, 0, 1), 5);
        checks.due("the worker paid half", sale.purse(0, 0), 975);
        sale.bid(0, 0, 2);
        checks.due("PRICE in ROUND 1", sale.purse(0, 1), 24);
        sale.close();
        checks.due("in ROUND 1 a worker pays all", sale.purse(0, 0), 951);
        // a WORK that comes later has no ROUND 0 for its workers
        sale.work(10, 10);
        sale.person(1);
        sale.bid(2, 1, 5);
        sale.close();
        checks.due("a worker of a WORK of ROUND 2 pays all", sale.purse(2, 0), 950);
    }

    @Says(where = "Terms", words = "RESERVE is SHARES times workers by 100, cut")
    static void reserveIsCut(Checks checks) {
        int[][] rows = {{100, 1, 1}, {99, 1, 0}, {199, 1, 1}, {200, 1, 2}, {9, 10, 0}, {10, 10, 1}, {19, 10, 1},
            {1, 50, 0}, {2, 50, 1}, {3, 50, 1}, {1000, 0, 0}};
        for (int[] row : rows) {
            CouponSale sale = Sales.ofWorkers("workers " + row[1] + ";", row[0], 100, 1);
            int asked = Math.min(3, row[0]);
            sale.bid(0, 0, asked);
            checks.due("all sold", sale.close(), asked);
            checks.due("RESERVE " + row[2] + " of " + row[0] + ", workers " + row[1], sale.purse(0, 0),
                1000 - 100 * asked + 50 * row[2]);
        }
    }

    /** In ROUND 0 all are LEFT and workers is at most 50, so RESERVE never reaches LEFT: its greatest is tried. */
    @Says(where = "Terms", words = "(LEFT at most);")
    static void reserveIsLeftAtMost(Checks checks) {
        for (int shares = 1; shares <= 6; shares++) {
            CouponSale sale = Sales.ofWorkers("workers 50;cut 300;half 1;", shares, 100, 1);
            sale.bid(0, 0, shares);
            checks.due("all sold, no more than there are", sale.close(), shares);
            checks.due("none LEFT", sale.about(0, 1), 0);
            checks.due("half of " + shares + " for 1 each", sale.purse(0, 0),
                1000 - shares / 2 - 100 * (shares - shares / 2));
        }
    }

    @Says(where = "Terms", words = "they have what they asked, together no more than RESERVE (else CUT BACK to it),")
    static void workersTogetherHaveNoMoreThanReserve(Checks checks) {
        // RESERVE 10; {asked by 0, asked by 1, of these for 1 point each to 0, to 1}
        int[][] rows = {{4, 6, 4, 6}, {4, 5, 4, 5}, {0, 10, 0, 10}, {5, 6, 5, 5}, {12, 3, 8, 2}, {0, 11, 0, 10},
            {8, 8, 5, 5}, {20, 1, 10, 0}, {19, 1, 10, 0}, {1, 19, 1, 9}};
        for (int[] row : rows) {
            CouponSale sale = Sales.ofWorkers("workers 10;half 10;", 100, 10, 2);
            sale.bid(0, 0, row[0]);
            sale.bid(1, 0, row[1]);
            checks.due("all sold", sale.close(), row[0] + row[1]);
            String what = row[0] + " and " + row[1] + " asked: ";
            checks.due(what + "paid by 0", 1000 - sale.purse(0, 0), 10 * row[0] - 9 * row[2]);
            checks.due(what + "paid by 1", 1000 - sale.purse(1, 0), 10 * row[1] - 9 * row[3]);
        }
    }

    @Says(where = "Terms", words = "each for PRICE times half by 100, rounded up, points;")
    static void workersPayHalfRoundedUpForEach(Checks checks) {
        // {PRICE, half, points for each}
        int[][] rows = {{1, 1, 1}, {1, 100, 1}, {3, 50, 2}, {4, 50, 2}, {99, 1, 1}, {100, 1, 1}, {101, 1, 2},
            {200, 1, 2}, {201, 1, 3}, {250, 100, 250}, {250, 99, 248}, {7, 33, 3}};
        for (int[] row : rows) {
            CouponSale sale = Sales.ofWorkers("workers 50;half " + row[1] + ";", 8, row[0], 1);
            sale.bid(0, 0, 4);
            sale.close();
            checks.due("4 for " + row[2] + " each: PRICE " + row[0] + ", half " + row[1], sale.purse(0, 0),
                1000 - 4 * row[2]);
        }
    }

    @Says(where = "Terms", words = "what they have so is no more asked for.")
    static void whatWorkersHaveIsNoMoreAskedFor(Checks checks) {
        CouponSale sale = Sales.ofWorkers("workers 50;cut 0;", 10, 10, 1);
        sale.bid(0, 0, 5);
        sale.bid(1, 0, 5);
        checks.due("5 to the worker, and 5 asked of 5", sale.close(), 10);
        checks.due("the worker has no more than asked", sale.holds(0, 0, 1), 5);
        checks.due("PRICE for 5 of 5", sale.about(0, 2), 10);
    }

    @Says(where = "Terms", words = "ASKED: what is then still asked for by all.")
    static void askedIsWhatIsStillAskedByAll(Checks checks) {
        CouponSale just = stillAsked(3);
        checks.due("3, 3 and 3 asked of 9", just.close(), 10);
        checks.due("PRICE for 9 of 9", just.about(0, 2), 10);
        checks.due("the FUND has its", just.holds(24, 0, 1), 3);
        CouponSale more = stillAsked(4);
        checks.due("3, 3 and 4 asked of 9: the worker's one alone", more.close(), 1);
        checks.due("PRICE for 10 of 9", more.about(0, 2), 12);
    }

    /** RESERVE 1 for a worker who asks for 4, another one who asks for 3, and a FUND. */
    private static CouponSale stillAsked(int byFund) {
        CouponSale sale = Sales.ofWorkers("workers 10;cut 0;", 10, 10, 1);
        sale.fund(0);
        sale.give(1, 24, 100);
        sale.bid(0, 0, 4);
        sale.bid(1, 0, 3);
        sale.bid(24, 0, byFund);
        return sale;
    }

    @Says(where = "Terms", words = "With ASKED no more than LEFT: all have it.")
    static void withNoMoreAskedThanLeftAllHaveIt(Checks checks) {
        // {asked by 0, asked by 1} of 7
        int[][] rows = {{0, 0}, {1, 0}, {3, 3}, {3, 4}, {0, 7}};
        for (int[] row : rows) {
            CouponSale sale = Sales.of("cut 0;", 7, 10, 2);
            sale.bid(0, 0, row[0]);
            sale.bid(1, 0, row[1]);
            checks.due("sold", sale.close(), row[0] + row[1]);
            checks.due("holds of 0", sale.holds(0, 0, 1), row[0]);
            checks.due("holds of 1", sale.holds(1, 0, 1), row[1]);
            checks.due("LEFT", sale.about(0, 1), 7 - row[0] - row[1]);
        }
    }

    @Says(where = "Terms",
        words = "Else, if ASKED less LEFT is no more than LEFT times cut by 100, cut: CUT BACK to LEFT.")
    static void whatIsAskedALittleTooMuchIsCutBack(Checks checks) {
        // {LEFT, cut, the most that is cut back}
        int[][] rows = {{10, 25, 12}, {4, 25, 5}, {3, 25, 3}, {3, 33, 3}, {3, 34, 4}, {100, 1, 101}, {99, 1, 99},
            {199, 1, 200}, {1, 100, 2}, {1, 99, 1}, {1, 300, 4}, {7, 0, 7}, {200, 300, 800}};
        for (int[] row : rows) {
            CouponSale most = Sales.of("cut " + row[1] + ";", row[0], 1, 1);
            most.bid(0, 0, row[2]);
            checks.due(row[2] + " asked of " + row[0] + ", cut " + row[1], most.close(), row[0]);
            checks.due("what one has", most.holds(0, 0, 1), row[0]);
            checks.due("what one paid", most.purse(0, 0), 1000 - row[0]);
            CouponSale more = Sales.of("cut " + row[1] + ";", row[0], 1, 1);
            more.bid(0, 0, row[2] + 1);
            checks.due(row[2] + 1 + " asked of " + row[0] + ", cut " + row[1], more.close(), 0);
        }
    }

    @Says(where = "Terms",
        words = "Else, if ASKED less LEFT is no more than LEFT times cut by 100, cut: CUT BACK to LEFT.")
    static void cutIsOfWhatIsLeftNotOfAllShares(Checks checks) {
        CouponSale sale = Sales.of("cut 25;rise 100;fall 100;", 20, 10, 2);
        sale.bid(0, 0, 12);
        sale.close();
        sale.bid(1, 0, 11);
        checks.due("11 asked of 8 LEFT", sale.close(), 0);
        sale.bid(1, 0, 10);
        checks.due("10 asked of 8 LEFT", sale.close(), 8);
    }

    @Says(where = "Terms", words = "Else nobody has any.")
    static void whatIsAskedTooMuchNobodyHas(Checks checks) {
        CouponSale sale = Sales.of("", 10, 10, 3);
        sale.bid(0, 0, 1);
        sale.bid(2, 0, 12);
        checks.due("13 asked of 10", sale.close(), 0);
        for (int person = 0; person < 3; person++) {
            checks.due("holds of " + person, sale.holds(person, 0, 1), 0);
            checks.due("POINTS of " + person, sale.purse(person, 0), 1000);
        }
        checks.due("all LEFT", sale.about(0, 1), 10);
        checks.due("PRICE moves all the same", sale.about(0, 2), 13);
        checks.due("sold in all", sale.count(4), 0);
    }

    @Says(where = "Terms", words = "Each pays PRICE a share.")
    static void eachPaysPriceAShare(Checks checks) {
        CouponSale sale = Sales.ofWorkers("workers 10;", 10, 11, 1);
        sale.fund(0);
        sale.give(1, 24, 500);
        sale.bid(0, 0, 3);
        sale.bid(1, 0, 4);
        sale.bid(24, 0, 5);
        // 1 to the worker for 6; then 11 asked of 9: 1.6, 3.3 and 4.1, so 2, 3 and 4
        checks.due("all sold", sale.close(), 10);
        checks.due("a worker for the others", sale.purse(0, 0), 1000 - 6 - 2 * 11);
        checks.due("one of PEOPLE", sale.purse(1, 0), 500 - 3 * 11);
        checks.due("a FUND", sale.purse(24, 0), 500 - 4 * 11);
        checks.due("PRICE moves behind it", sale.about(0, 2), 14);
    }

    @Says(where = "Terms",
        words = "Then PRICE is PRICE times ASKED by what was LEFT ahead of these (behind the workers), rounded up;")
    static void priceMovesByWhatWasAsked(Checks checks) {
        // {SHARES, PRICE, asked, PRICE then}
        int[][] rows = {{10, 10, 10, 10}, {10, 10, 9, 9}, {10, 10, 11, 11}, {10, 13, 7, 10}, {10, 13, 10, 13},
            {7, 10, 6, 9}, {7, 10, 8, 12}, {7, 10, 5, 8}, {3, 100, 2, 67}, {3, 99, 2, 66}, {1000, 1, 999, 1},
            {4, 3, 5, 4}};
        for (int[] row : rows) {
            CouponSale sale = Sales.of("", row[0], row[1], 1);
            sale.bid(0, 0, row[2]);
            sale.close();
            checks.due(row[2] + " asked of " + row[0] + " at " + row[1], sale.about(0, 2), row[3]);
        }
    }

    @Says(where = "Terms",
        words = "Then PRICE is PRICE times ASKED by what was LEFT ahead of these (behind the workers), rounded up;")
    static void priceMovesByWhatWasLeftBehindTheWorkers(Checks checks) {
        CouponSale sale = Sales.ofWorkers("workers 50;", 10, 10, 1);
        sale.bid(0, 0, 5);
        sale.bid(1, 0, 4);
        sale.close();
        checks.due("4 asked of the 5 behind the workers", sale.about(0, 2), 8);
        sale.bid(1, 0, 1);
        sale.close();
        checks.due("1 asked of the 1 LEFT", sale.about(0, 2), 8);
    }

    @Says(where = "Terms", words = "PRICE times rise by 100, cut, at most;")
    static void priceRisesByRiseAtMost(Checks checks) {
        // {SHARES, PRICE, rise, asked, PRICE then}
        int[][] rows = {{10, 10, 150, 14, 14}, {10, 10, 150, 15, 15}, {10, 10, 150, 16, 15}, {10, 7, 133, 100, 9},
            {1, 99, 101, 9, 99}, {1, 100, 101, 9, 101}, {1, 199, 101, 5, 200}, {10, 10, 100, 90, 10},
            {1, 1, 999, 9, 9}, {1, 1, 999, 10, 9}, {1, 100, 999, 10, 999}, {10, 1, 199, 1000, 1}};
        for (int[] row : rows) {
            CouponSale sale = Sales.of("rise " + row[2] + ";", row[0], row[1], 1);
            sale.bid(0, 0, row[3]);
            sale.close();
            checks.due(row[3] + " asked of " + row[0] + " at " + row[1] + ", rise " + row[2], sale.about(0, 2), row[4]);
        }
    }

    @Says(where = "Terms", words = "PRICE times fall by 100, rounded up, at least;")
    static void priceFallsByFallAtMost(Checks checks) {
        // {PRICE, fall, asked of 10, PRICE then}
        int[][] rows = {{10, 50, 6, 6}, {10, 50, 5, 5}, {10, 50, 4, 5}, {10, 50, 0, 5}, {7, 50, 0, 4}, {100, 1, 0, 1},
            {101, 1, 0, 2}, {9999, 1, 0, 100}, {9999, 100, 0, 9999}, {9900, 1, 0, 99}, {7, 100, 3, 7}, {1, 50, 0, 1},
            {101, 99, 0, 100}, {100, 99, 0, 99}};
        for (int[] row : rows) {
            CouponSale sale = Sales.of("fall " + row[1] + ";", 10, row[0], 1);
            sale.bid(0, 0, row[2]);
            sale.close();
            checks.due(row[2] + " asked of 10 at " + row[0] + ", fall " + row[1], sale.about(0, 2), row[3]);
        }
    }

    @Says(where = "Terms", words = "then least at least, 9999 at most.")
    static void priceIsLeastAtLeast(Checks checks) {
        // {PRICE, least, PRICE then, none asked}
        int[][] rows = {{10, 4, 5}, {10, 5, 5}, {10, 6, 6}, {10, 10, 10}, {10, 20, 20}, {10, 21, 21}, {10, 9999, 9999},
            {1, 2, 2}, {9999, 9999, 9999}, {9999, 5001, 5001}};
        for (int[] row : rows) {
            CouponSale sale = Sales.of("least " + row[1] + ";", 10, row[0], 1);
            sale.close();
            checks.due("none asked at " + row[0] + ", least " + row[1], sale.about(0, 2), row[2]);
        }
        CouponSale risen = Sales.of("least 50;rise 150;cut 0;", 10, 10, 1);
        risen.bid(0, 0, 100);
        risen.close();
        checks.due("least behind the rise", risen.about(0, 2), 50);
    }

    @Says(where = "Terms", words = "then least at least, 9999 at most.")
    static void priceIs9999AtMost(Checks checks) {
        // {PRICE, asked of 1, PRICE then}
        int[][] rows = {{3333, 3, 9999}, {3334, 3, 9999}, {5000, 2, 9999}, {4999, 2, 9998}, {9999, 2, 9999},
            {9998, 1, 9998}, {2400, 10, 9999}};
        for (int[] row : rows) {
            CouponSale sale = Sales.ofRichFund("rise 999;cut 0;", 1, row[0], 0);
            sale.bid(24, 0, row[1]);
            sale.close();
            checks.due(row[1] + " asked of 1 at " + row[0], sale.about(0, 2), row[2]);
        }
    }

    @Says(where = "Terms", words = "(With none LEFT behind the workers, or ahead: PRICE stays.)")
    static void priceStaysWithNoneLeft(Checks checks) {
        CouponSale sale = Sales.of("", 10, 10, 3);
        sale.bid(0, 0, 10);
        sale.close();
        checks.due("none LEFT", sale.about(0, 1), 0);
        sale.close();
        checks.due("none asked", sale.about(0, 2), 10);
        sale.bid(1, 0, 100);
        sale.close();
        checks.due("100 asked", sale.about(0, 2), 10);
        Checks.rules(sale, "least 11;");
        sale.close();
        checks.due("least above it, none asked", sale.about(0, 2), 10);
        sale.bid(1, 0, 1);
        sale.bid(2, 0, 1);
        sale.close();
        checks.due("least above it, 2 asked", sale.about(0, 2), 10);
        checks.due("PRICE of that ROUND", sale.price(0, 5), 10);
        CouponSale one = Sales.of("", 10, 10, 1);
        one.bid(0, 0, 9);
        one.close();
        one.close();
        checks.due("with 1 LEFT it moves", one.about(0, 2), 5);
    }

    /** workers is at most 50, so that at least one is LEFT behind them; with that one PRICE moves. */
    @Says(where = "Terms", words = "(With none LEFT behind the workers, or ahead: PRICE stays.)")
    static void priceMovesWithOneLeftBehindTheWorkers(Checks checks) {
        CouponSale sale = Sales.ofWorkers("workers 50;", 2, 10, 2);
        sale.bid(0, 0, 1);
        checks.due("the worker's", sale.close(), 1);
        checks.due("none asked of the 1 LEFT", sale.about(0, 2), 5);
        CouponSale more = Sales.ofWorkers("workers 50;cut 0;", 2, 10, 2);
        more.bid(0, 0, 2);
        more.bid(1, 0, 2);
        checks.due("one at half to the lesser worker", more.close(), 1);
        checks.due("3 asked of the 1 LEFT", more.about(0, 2), 20);
    }

    @Says(where = "Terms", words = "CUT BACK to n: each has what one asked times n by all that is asked, cut;")
    static void cutBackByPart(Checks checks) {
        // 8 of 16 asked, no rests
        dueCutBack(checks, 8, new int[] {2, 4, 10}, new int[] {1, 2, 5});
        // one alone has all that there is
        dueCutBack(checks, 7, new int[] {0, 20, 0}, new int[] {0, 7, 0});
        // 10 of 12: 9.16 and 0.83
        dueCutBack(checks, 10, new int[] {11, 1, 0}, new int[] {9, 1, 0});
        // 300 of 999: 299.69 and 0.3: below one, cut to none
        dueCutBack(checks, 300, new int[] {998, 0, 1}, new int[] {300, 0, 0});
        // the greatest numbers: 1000 asked three times
        dueCutBack(checks, 1000, new int[] {1000, 1000, 1000}, new int[] {334, 333, 333});
    }

    @Says(where = "Terms", words = "what is left of n goes one each to those with the greatest rests,")
    static void cutBackRestsGoOneEach(Checks checks) {
        // 10 of 12: 5.83, 2.5 and 1.66
        dueCutBack(checks, 10, new int[] {7, 3, 2}, new int[] {6, 2, 2});
        dueCutBack(checks, 10, new int[] {2, 3, 7}, new int[] {2, 2, 6});
        dueCutBack(checks, 10, new int[] {3, 2, 7}, new int[] {2, 2, 6});
        // 5 of 6, 0.83 each: one each to five, none to the last
        dueCutBack(checks, 5, new int[] {1, 1, 1, 1, 1, 1}, new int[] {1, 1, 1, 1, 1, 0});
        // 1 of 4: 0.25, 0.5 and 0.25
        dueCutBack(checks, 1, new int[] {1, 2, 1}, new int[] {0, 1, 0});
    }

    @Says(where = "Terms", words = "of like ones the lesser BIDDER.")
    static void cutBackOfLikeRestsTheLesserBidder(Checks checks) {
        // 10 of 12, 3.33 each
        dueCutBack(checks, 10, new int[] {4, 4, 4}, new int[] {4, 3, 3});
        dueCutBack(checks, 10, new int[] {0, 4, 4, 4}, new int[] {0, 4, 3, 3});
        // 11 of 12, 3.66 each
        dueCutBack(checks, 11, new int[] {4, 4, 4}, new int[] {4, 4, 3});
        // 3 of 6: 0.5, 1.5, 0.5 and 0.5
        dueCutBack(checks, 3, new int[] {1, 3, 1, 1}, new int[] {1, 2, 0, 0});
        // one of PEOPLE is a lesser BIDDER than a FUND, and 24 than 25
        CouponSale sale = Sales.of("", 5, 10, 24);
        sale.fund(0);
        sale.fund(0);
        sale.give(0, 25, 100);
        sale.give(0, 24, 100);
        sale.bid(25, 0, 2);
        sale.bid(24, 0, 2);
        sale.bid(23, 0, 2);
        // 5 of 6: 1.66 each
        sale.close();
        checks.due("23", sale.holds(23, 0, 1), 2);
        checks.due("24", sale.holds(24, 0, 1), 2);
        checks.due("25", sale.holds(25, 0, 1), 1);
    }

    private static void dueCutBack(Checks checks, int left, int[] asked, int[] due) {
        CouponSale sale = Sales.of("cut 300;", left, 1, asked.length);
        // the greatest BIDDER bids first: who came first does not count
        for (int person = asked.length - 1; person >= 0; person--) {
            sale.bid(person, 0, asked[person]);
        }
        checks.due("all sold", sale.close(), left);
        for (int person = 0; person < asked.length; person++) {
            checks.due(person + ", who asked for " + asked[person] + " of " + left, sale.holds(person, 0, 1), due[person]);
            checks.due("POINTS of " + person, sale.purse(person, 0), 1000 - due[person]);
        }
    }

    @Says(where = "Terms", words = "Then all BIDS are gone, and ROUND is one more.")
    static void allBidsAreGone(Checks checks) {
        CouponSale sale = Sales.of("cut 0;", 4, 10, 2);
        sale.work(4, 10);
        sale.work(4, 10);
        sale.fund(0);
        sale.give(1, 24, 100);
        sale.bid(0, 0, 4);
        sale.close();
        checks.due("ROUND 1", sale.count(0), 1);
        // none LEFT of WORK 0, too much asked of WORK 1, all had of WORK 2
        for (int w = 0; w < 3; w++) {
            sale.bid(1, w, 4);
            sale.bid(24, w, w == 1 ? 1 : 0);
        }
        checks.due("sold", sale.close(), 4);
        checks.due("ROUND 2", sale.count(0), 2);
        for (int w = 0; w < 3; w++) {
            checks.due("asks of 1", sale.asks(1, w), 0);
            checks.due("asks of 24", sale.asks(24, w), 0);
            checks.due("asked by all", sale.about(w, 3), 0);
        }
        checks.due("COST of 1", sale.purse(1, 1), 0);
        checks.due("COST of 24", sale.purse(24, 1), 0);
        checks.due("no BID is sold again", sale.close(), 0);
        checks.due("ROUND 3", sale.count(0), 3);
    }
}

/** Promises 1 and 7 to 12: a new object, work, person, fund, give, bid, close. */
final class SentencesOnTakingPart {
    private SentencesOnTakingPart() {
    }

    @Says(where = "Promise 1", words = "No WORKS, PEOPLE, FUNDS, BIDS;")
    static void aNewObjectHasNobodyAndNothing(Checks checks) {
        CouponSale sale = new CouponSale();
        checks.due("WORKS", sale.count(1), 0);
        checks.due("PEOPLE", sale.count(2), 0);
        checks.due("FUNDS", sale.count(3), 0);
        checks.due("SHARES sold", sale.count(4), 0);
        checks.due("about WORK 0", sale.about(0, 0), -1);
        checks.due("PRICE of WORK 0", sale.price(0, 0), -1);
        checks.due("asks of 0", sale.asks(0, 0), -1);
        checks.due("holds of 0", sale.holds(0, 0, 0), -1);
        checks.due("a BID of 0", sale.bid(0, 0, 0), -1);
        checks.due("a gift of 0", sale.give(0, 24, 1), -1);
        checks.dueThrow("purse of 0", () -> sale.purse(0, 0));
        checks.dueThrow("purse of 24", () -> sale.purse(24, 0));
        checks.dueThrow("OWNED by 0", () -> sale.owned(0, 0, 0, 0));
        checks.due("a ROUND without WORKS ends", sale.close(), 0);
        CouponSale bids = Sales.of("", 10, 10, 1);
        checks.due("no BIDS for WORK 0", bids.about(0, 3), 0);
        checks.due("no BIDS of 0", bids.asks(0, 0), 0);
        checks.due("their COST", bids.purse(0, 1), 0);
    }

    @Says(where = "Promise 1", words = "RULES as without a text;")
    static void aNewObjectHasRulesAsWithoutAText(Checks checks) {
        Checks.rules(new CouponSale(), "workers 1;half 2;cut 3;rise 104;fall 5;least 6;");
        CouponSale sale = new CouponSale();
        int[] due = {10, 50, 25, 200, 50, 1};
        for (int k = 0; k < due.length; k++) {
            checks.due("rule " + k, sale.rule(k), due[k]);
        }
        checks.due("fault", sale.fault(), 0);
    }

    @Says(where = "Promise 1", words = "ROUND 0;")
    static void aNewObjectIsInRound0(Checks checks) {
        new CouponSale().close();
        CouponSale sale = Sales.of("", 10, 10, 1);
        checks.due("ROUND", new CouponSale().count(0), 0);
        checks.due("AS OF 0", sale.holds(0, 0, 0), 0);
        checks.due("AS OF 1", sale.holds(0, 0, 1), -1);
        sale.fund(0);
        checks.due("gifts are GIVEN", sale.give(0, 24, 1), 1);
    }

    @Says(where = "Promise 1", words = "an empty tape.")
    static void aNewObjectHasAnEmptyTape(Checks checks) {
        new CouponSale().feed(1, 2, 3, 4, 5);
        CouponSale sale = new CouponSale();
        checks.due("bytes of the tape", sale.count(5), 0);
        checks.due("end(1)", sale.end(1), false);
        checks.due("rules", sale.rules(), 0);
        checks.due("the first feed", new CouponSale().feed(0, 0, 0, 0, 0), 20);
    }

    @Says(where = "Promise 7", words = "One more WORK: its number;")
    static void workTellsItsNumber(Checks checks) {
        CouponSale sale = new CouponSale();
        checks.due("the first", sale.work(1, 9999), 0);
        checks.due("the second", sale.work(1000, 1), 1);
        checks.due("WORKS", sale.count(1), 2);
        sale.close();
        checks.due("one of ROUND 1", sale.work(7, 7), 2);
        checks.due("WORKS then", sale.count(1), 3);
        checks.due("SHARES", sale.about(2, 0), 7);
        checks.due("of the first", sale.about(0, 0), 1);
    }

    @Says(where = "Promise 7", words = "NONE: there are 10,")
    static void workIsNoneWith10(Checks checks) {
        CouponSale sale = new CouponSale();
        for (int w = 0; w < 9; w++) {
            sale.work(1, 1);
        }
        checks.due("the tenth", sale.work(1, 1), 9);
        checks.dueAndAllStays("an eleventh", sale, () -> sale.work(2, 2), -1);
        sale.close();
        checks.due("an eleventh in ROUND 1", sale.work(2, 2), -1);
        checks.due("WORKS", sale.count(1), 10);
    }

    @Says(where = "Promise 7", words = "or a number is not as told.")
    static void workIsNoneWithANumberNotAsTold(Checks checks) {
        int[][] wrong = {{0, 1}, {1001, 1}, {1, 0}, {1, 10000}, {0, 0}, {-1, 5}, {5, -1}, {Sales.LOW, 5},
            {Sales.HIGH, 5}, {5, Sales.LOW}, {5, Sales.HIGH}, {65537, 5}, {5, 65537}};
        for (int[] numbers : wrong) {
            CouponSale sale = Sales.small();
            checks.dueAndAllStays("work " + numbers[0] + ", " + numbers[1], sale,
                () -> sale.work(numbers[0], numbers[1]), -1);
        }
        CouponSale sale = new CouponSale();
        checks.due("the least numbers", sale.work(1, 1), 0);
        checks.due("the greatest numbers", sale.work(1000, 9999), 1);
    }

    @Says(where = "Promise 8", words = "One more of PEOPLE, a worker of a WORK (NONE: of none): the BIDDER's number;")
    static void personTellsTheBiddersNumber(Checks checks) {
        CouponSale sale = new CouponSale();
        checks.due("of none, without WORKS", sale.person(CouponSale.NONE), 0);
        sale.work(10, 10);
        checks.due("of WORK 0", sale.person(0), 1);
        checks.due("of none", sale.person(-1), 2);
        sale.fund(0);
        checks.due("FUNDS have numbers of their own", sale.person(0), 3);
        sale.close();
        checks.due("in ROUND 1", sale.person(0), 4);
        checks.due("PEOPLE", sale.count(2), 5);
    }

    @Says(where = "Promise 8", words = "NONE: there are 24, or no such WORK.")
    static void personIsNoneWith24OrWithoutThatWork(Checks checks) {
        CouponSale none = new CouponSale();
        checks.due("of WORK 0, which is not there", none.person(0), -1);
        int[] wrong = {2, 3, 9, 10, -2, Sales.LOW, Sales.HIGH};
        for (int worker : wrong) {
            CouponSale sale = Sales.small();
            checks.dueAndAllStays("of WORK " + worker, sale, () -> sale.person(worker), -1);
        }
        CouponSale full = new CouponSale();
        full.work(1, 1);
        Sales.addPeople(full, 23);
        checks.due("the 24th", full.person(CouponSale.NONE), 23);
        checks.dueAndAllStays("a 25th", full, () -> full.person(CouponSale.NONE), -1);
        checks.due("a 25th, a worker", full.person(0), -1);
        checks.due("PEOPLE", full.count(2), 24);
        checks.dueThrow("no BIDDER 24", () -> full.purse(24, 0));
    }

    @Says(where = "Promise 9", words = "One more FUND that PROMISES so many hundredths: the BIDDER's number;")
    static void fundTellsTheBiddersNumber(Checks checks) {
        CouponSale sale = new CouponSale();
        checks.due("without PEOPLE", sale.fund(0), 24);
        sale.person(CouponSale.NONE);
        checks.due("the second", sale.fund(500), 25);
        sale.close();
        checks.due("in ROUND 1", sale.fund(100), 26);
        checks.due("FUNDS", sale.count(3), 3);
    }

    @Says(where = "Promise 9", words = "NONE: there are 4, or it is not as told.")
    static void fundIsNoneWith4OrNotAsTold(Checks checks) {
        int[] wrong = {-1, 501, Sales.LOW, Sales.HIGH};
        for (int promise : wrong) {
            CouponSale sale = Sales.small();
            checks.dueAndAllStays("fund " + promise, sale, () -> sale.fund(promise), -1);
        }
        CouponSale full = new CouponSale();
        int[] right = {0, 500, 1, 499};
        for (int f = 0; f < 4; f++) {
            checks.due("fund " + right[f], full.fund(right[f]), 24 + f);
        }
        checks.dueAndAllStays("a fifth", full, () -> full.fund(100), -1);
        checks.due("FUNDS", full.count(3), 4);
    }

    @Says(where = "Promise 10", words = "One of PEOPLE GIVES a FUND so many POINTS (1 at least):")
    static void oneGives1AtLeast(Checks checks) {
        int[] wrong = {0, -1, -1000, Sales.LOW};
        for (int points : wrong) {
            CouponSale sale = gifts();
            checks.dueAndAllStays("give " + points, sale, () -> sale.give(0, 24, points), -1);
        }
        CouponSale sale = gifts();
        checks.due("give 1", sale.give(0, 24, 1), 1);
        checks.due("POINTS of the giver", sale.purse(0, 0), 999);
        checks.due("POINTS of the FUND", sale.purse(24, 0), 1);
        checks.due("what it was GIVEN", sale.purse(24, 2), 1);
        checks.due("POINTS of another one", sale.purse(1, 0), 1000);
        checks.due("POINTS of another FUND", sale.purse(25, 0), 0);
    }

    @Says(where = "Promise 10", words = "what the FUND was GIVEN by that one in all;")
    static void giveTellsWhatThatOneGaveInAll(Checks checks) {
        CouponSale sale = gifts();
        checks.due("first", sale.give(0, 24, 10), 10);
        checks.due("once more", sale.give(0, 24, 5), 15);
        checks.due("by another one", sale.give(1, 24, 100), 100);
        checks.due("to another FUND", sale.give(0, 25, 7), 7);
        checks.due("once more to the first", sale.give(0, 24, 1), 16);
        checks.due("the last points", sale.give(0, 24, 977), 993);
    }

    @Says(where = "Promise 10", words = "NONE, and none are GIVEN: no such ones,")
    static void giveIsNoneForNoSuchOnes(Checks checks) {
        int[][] wrong = {{2, 24}, {23, 24}, {-1, 24}, {24, 24}, {24, 25}, {28, 24}, {Sales.LOW, 24}, {Sales.HIGH, 24},
            {0, 26}, {0, 27}, {0, 28}, {0, 23}, {0, 0}, {0, 1}, {0, -1}, {0, Sales.LOW}, {0, Sales.HIGH}};
        for (int[] g : wrong) {
            CouponSale sale = gifts();
            checks.dueAndAllStays("give " + g[0] + " to " + g[1], sale, () -> sale.give(g[0], g[1], 1), -1);
        }
    }

    @Says(where = "Promise 10", words = "ROUND is not 0,")
    static void giveIsNoneWhenRoundIsNot0(Checks checks) {
        CouponSale sale = gifts();
        sale.give(0, 24, 3);
        sale.close();
        checks.dueAndAllStays("give in ROUND 1", sale, () -> sale.give(0, 24, 1), -1);
    }

    @Says(where = "Promise 10", words = "or they are more than one has beyond what one's BIDS COST.")
    static void giveIsNoneBeyondWhatBidsCost(Checks checks) {
        CouponSale sale = gifts();
        checks.due("more than all", sale.give(0, 24, 1001), -1);
        checks.due("far more than all", sale.give(0, 24, Sales.HIGH), -1);
        sale.work(1000, 3);
        sale.work(1000, 7);
        sale.bid(0, 0, 100);
        sale.bid(0, 1, 50);
        // 650 of 1000; with 650 more the greatest numbers would be below 0
        checks.due("the greatest number", sale.give(0, 24, Sales.HIGH), -1);
        checks.due("nearly the greatest number", sale.give(0, 24, Sales.HIGH - 600), -1);
        checks.dueAndAllStays("one more than is beyond", sale, () -> sale.give(0, 24, 351), -1);
        checks.due("just what is beyond", sale.give(0, 24, 350), 350);
        checks.due("nothing is beyond", sale.give(0, 24, 1), -1);
        sale.bid(0, 0, 99);
        checks.due("one more than is beyond then", sale.give(0, 24, 4), -1);
        checks.due("just what is beyond then", sale.give(0, 24, 3), 353);
        checks.due("all, of one without BIDS", sale.give(1, 24, 1000), 1000);
    }

    private static CouponSale gifts() {
        CouponSale sale = new CouponSale();
        Sales.addPeople(sale, 2);
        sale.fund(0);
        sale.fund(0);
        return sale;
    }

    @Says(where = "Promise 11",
        words = "A BID for so many SHARES (0: none any more): what all BIDS of that one COST then;")
    static void bidTellsWhatAllBidsCost(Checks checks) {
        CouponSale sale = Sales.of("", 10, 30, 2);
        sale.work(10, 7);
        checks.due("0 without a BID ahead", sale.bid(0, 0, 0), 0);
        checks.due("20 of WORK 0", sale.bid(0, 0, 20), 600);
        checks.due("and 10 of WORK 1", sale.bid(0, 1, 10), 670);
        checks.due("31 in the place of 20", sale.bid(0, 0, 31), 1000);
        checks.due("the same once more", sale.bid(0, 0, 31), 1000);
        checks.due("of another one", sale.bid(1, 0, 1), 30);
        checks.due("none any more", sale.bid(0, 0, 0), 70);
        checks.due("asks none", sale.asks(0, 0), 0);
        checks.due("of the other one alone", sale.about(0, 3), 1);
        checks.due("none at all", sale.bid(0, 1, 0), 0);
        checks.due("sold", sale.close(), 1);
    }

    @Says(where = "Promise 11", words = "NONE, and all stays: no such ones,")
    static void bidIsNoneForNoSuchOnes(Checks checks) {
        int[][] wrong = {{2, 0}, {23, 0}, {25, 0}, {27, 0}, {28, 0}, {-1, 0}, {Sales.LOW, 0}, {Sales.HIGH, 0}, {0, 2},
            {0, 9}, {0, 10}, {0, -1}, {0, Sales.LOW}, {0, Sales.HIGH}};
        for (int[] b : wrong) {
            for (int shares = 0; shares <= 1; shares++) {
                int asked = shares;
                CouponSale sale = Sales.small();
                checks.dueAndAllStays("bid of " + b[0] + " for WORK " + b[1], sale, () -> sale.bid(b[0], b[1], asked), -1);
            }
        }
    }

    @Says(where = "Promise 11", words = "a number that is not 0 to 1000,")
    static void bidIsNoneForANumberThatIsNot0To1000(Checks checks) {
        int[] wrong = {-1, 1001, 5000, -1000, Sales.LOW, Sales.HIGH};
        for (int shares : wrong) {
            CouponSale sale = Sales.small();
            checks.dueAndAllStays("bid for " + shares, sale, () -> sale.bid(1, 0, shares), -1);
        }
        // dear numbers whose COST would be small again as an int
        int[] wrapped = {Integer.MIN_VALUE, 1 << 30, 1 << 29};
        for (int shares : wrapped) {
            CouponSale sale = Sales.of("", 1000, 8, 1);
            checks.dueAndAllStays("bid for " + shares, sale, () -> sale.bid(0, 0, shares), -1);
        }
        CouponSale sale = Sales.ofRichFund("", 1, 1, 0);
        checks.due("1000", sale.bid(24, 0, 1000), 1000);
        checks.due("1001, though one has the POINTS", sale.bid(24, 0, 1001), -1);
        checks.due("1000 stay", sale.asks(24, 0), 1000);
        checks.due("0", sale.bid(24, 0, 0), 0);
    }

    @Says(where = "Promise 11", words = "or they would COST too much.")
    static void bidIsNoneIfItWouldCostTooMuch(Checks checks) {
        CouponSale sale = Sales.of("", 1000, 9999, 1);
        sale.work(1000, 100);
        sale.fund(0);
        checks.dueAndAllStays("one too dear SHARE", sale, () -> sale.bid(0, 0, 1), -1);
        checks.due("1000 too dear SHARES", sale.bid(0, 0, 1000), -1);
        checks.due("10 for 1000", sale.bid(0, 1, 10), 1000);
        checks.dueAndAllStays("11 for 1100", sale, () -> sale.bid(0, 1, 11), -1);
        checks.due("the BID ahead stays", sale.asks(0, 1), 10);
        checks.due("of a FUND without POINTS", sale.bid(24, 1, 1), -1);
        sale.bid(0, 1, 9);
        sale.give(0, 24, 100);
        checks.due("one that GAVE 100", sale.bid(0, 1, 10), -1);
        checks.due("a FUND that was GIVEN 100", sale.bid(24, 1, 1), 100);
        checks.due("and no more", sale.bid(24, 1, 2), -1);
        sale.close();
        checks.due("by the POINTS behind a ROUND", sale.purse(24, 0), 0);
        checks.due("none to bid with", sale.bid(24, 1, 1), -1);
    }

    @Says(where = "Promise 12", words = "The ROUND ends: how many SHARES were sold;")
    static void closeTellsHowManyWereSold(Checks checks) {
        CouponSale sale = Sales.ofWorkers("workers 10;cut 0;", 10, 10, 1);
        sale.work(10, 10);
        sale.work(10, 10);
        sale.bid(0, 0, 1);
        sale.bid(1, 0, 2);
        sale.bid(1, 1, 11);
        sale.bid(0, 2, 4);
        checks.due("1 to a worker, 2 and 4 to all, none of 11", sale.close(), 7);
        checks.due("ROUND", sale.count(0), 1);
        checks.due("sold in all", sale.count(4), 7);
        checks.due("without BIDS", sale.close(), 0);
        checks.due("ROUND then", sale.count(0), 2);
        sale.bid(0, 2, 1);
        checks.due("one more", sale.close(), 1);
        checks.due("sold in all then", sale.count(4), 8);
        checks.due("without WORKS", new CouponSale().close(), 0);
    }

    @Says(where = "Promise 12", words = "NONE: it is 49.")
    static void closeIsNoneIn49(Checks checks) {
        CouponSale sale = Sales.of("fall 100;", 100, 1, 1);
        for (int round = 0; round < 48; round++) {
            checks.due("close in " + round, sale.close(), 0);
        }
        sale.bid(0, 0, 3);
        checks.due("close in 48", sale.close(), 3);
        checks.due("a BID in 49", sale.bid(0, 0, 2), 2);
        checks.due("close in 49", sale.close(), -1);
        checks.due("once more", sale.close(), -1);
        checks.due("ROUND", sale.count(0), 49);
        checks.due("the BID stays", sale.asks(0, 0), 2);
        checks.due("POINTS stay", sale.purse(0, 0), 997);
        checks.due("LEFT stay", sale.about(0, 1), 97);
        checks.due("PRICE stays", sale.about(0, 2), 1);
        checks.due("sold in all", sale.count(4), 3);
        checks.due("held AS OF 49", sale.holds(0, 0, 49), 3);
        checks.due("AS OF 50", sale.holds(0, 0, 50), -1);
    }
}

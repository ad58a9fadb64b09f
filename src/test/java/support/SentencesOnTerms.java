/** "Terms" up to the RULES, and how long an object is used. */
final class SentencesOnTerms {
    private SentencesOnTerms() {
    }

    @Says(where = "What it is", words = "An object is used for at most 512 calls after it has been made;")
    static void the512thCallAnswersAsDue(Checks checks) {
        CouponSale sale = new CouponSale();
        int calls = 0;
        for (int w = 0; w < 10; w++, calls++) {
            checks.due("work", sale.work(100, 1), w);
        }
        for (int person = 0; person < 24; person++, calls++) {
            checks.due("person", sale.person(person % 10), person);
        }
        for (int fund = 24; fund < 28; fund++, calls++) {
            checks.due("fund", sale.fund(0), fund);
        }
        for (int person = 0; person < 24; person++, calls++) {
            checks.due("give", sale.give(person, 24 + person % 4, 10), 10);
        }
        for (int round = 0; round < 49; round++, calls++) {
            for (int n = 0; n < 8; n++, calls++) {
                checks.due("bid", sale.bid(20 + n, round % 10, 1), 1);
            }
            checks.due("close", sale.close(), 8);
        }
        for (; calls < 511; calls++) {
            checks.due("round", sale.count(0), 49);
        }
        checks.due("the 512th call", sale.purse(27, 4), 49);
    }

    @Says(where = "Terms", words = "WORKS 0 .. 9 have SHARES")
    static void worksAre0To9(Checks checks) {
        CouponSale sale = new CouponSale();
        for (int w = 0; w <= 9; w++) {
            checks.due("ahead of WORK " + w, sale.about(w, 0), -1);
            checks.due("WORK " + w, sale.work(w + 1, 1), w);
            checks.due("SHARES of WORK " + w, sale.about(w, 0), w + 1);
        }
        checks.due("no WORK 10", sale.work(1, 1), -1);
        checks.due("nothing about WORK 10", sale.about(10, 0), -1);
        checks.due("nothing about WORK -1", sale.about(-1, 0), -1);
    }

    @Says(where = "Terms", words = "SHARES (1 to 1000),")
    static void sharesAre1To1000(Checks checks) {
        CouponSale sale = new CouponSale();
        int[] wrong = {0, 1001, -1, Sales.LOW, Sales.HIGH};
        for (int shares : wrong) {
            checks.due("SHARES " + shares, sale.work(shares, 5), -1);
        }
        checks.due("1 of them", sale.work(1, 5), 0);
        checks.due("1000 of them", sale.work(1000, 5), 1);
        checks.due("there is 1", sale.about(0, 0), 1);
        checks.due("there are 1000", sale.about(1, 0), 1000);
    }

    @Says(where = "Terms", words = "some of which are LEFT (all at first),")
    static void allAreLeftAtFirst(Checks checks) {
        CouponSale sale = Sales.of("", 1000, 1, 1);
        sale.work(1, 1);
        checks.due("LEFT of 1000", sale.about(0, 1), 1000);
        checks.due("LEFT of 1", sale.about(1, 1), 1);
        sale.bid(0, 0, 999);
        checks.due("LEFT with a BID", sale.about(0, 1), 1000);
        sale.close();
        checks.due("LEFT behind a sale", sale.about(0, 1), 1);
        checks.due("SHARES behind a sale", sale.about(0, 0), 1000);
        checks.due("LEFT of the unsold one", sale.about(1, 1), 1);
        sale.bid(0, 0, 1);
        sale.close();
        checks.due("none LEFT", sale.about(0, 1), 0);
        checks.due("SHARES with none LEFT", sale.about(0, 0), 1000);
    }

    @Says(where = "Terms", words = "and a PRICE in points (1 to 9999).")
    static void priceIs1To9999(Checks checks) {
        CouponSale sale = new CouponSale();
        int[] wrong = {0, 10000, -1, Sales.LOW, Sales.HIGH};
        for (int price : wrong) {
            checks.due("PRICE " + price, sale.work(5, price), -1);
        }
        checks.due("PRICE 1", sale.work(5, 1), 0);
        checks.due("PRICE 9999", sale.work(5, 9999), 1);
        checks.due("it is 1", sale.about(0, 2), 1);
        checks.due("it is 9999", sale.about(1, 2), 9999);
        sale.close();
        checks.due("1 does not fall below 1", sale.about(0, 2), 1);
        checks.due("9999 falls", sale.about(1, 2), 5000);
    }

    @Says(where = "Terms", words = "BIDDERS: PEOPLE 0 .. 23,")
    static void peopleAre0To23(Checks checks) {
        CouponSale sale = new CouponSale();
        sale.work(100, 1);
        for (int person = 0; person <= 23; person++) {
            int next = person;
            checks.dueThrow("ahead of one of PEOPLE " + person, () -> sale.purse(next, 0));
            checks.due("one of PEOPLE", sale.person(CouponSale.NONE), person);
            checks.due("POINTS of " + person, sale.purse(person, 0), 1000);
            checks.due("a BID of " + person, sale.bid(person, 0, 1), 1);
        }
        checks.due("no 24th", sale.person(CouponSale.NONE), -1);
        checks.dueThrow("24 is none of PEOPLE", () -> sale.purse(24, 0));
        checks.due("no BID of 24", sale.bid(24, 0, 0), -1);
    }

    @Says(where = "Terms", words = "and FUNDS 24 .. 27;")
    static void fundsAre24To27(Checks checks) {
        CouponSale sale = new CouponSale();
        sale.work(100, 1);
        for (int fund = 24; fund <= 27; fund++) {
            int next = fund;
            checks.dueThrow("ahead of FUND " + fund, () -> sale.purse(next, 0));
            checks.due("a FUND", sale.fund(100), fund);
            checks.due("it was GIVEN", sale.purse(fund, 2), 0);
            checks.due("a BID of it", sale.bid(fund, 0, 0), 0);
        }
        checks.due("no fifth", sale.fund(100), -1);
        checks.dueThrow("28 is no FUND", () -> sale.purse(28, 0));
        checks.dueThrow("23 is no FUND", () -> sale.purse(23, 0));
    }

    @Says(where = "Terms", words = "each has POINTS: one of PEOPLE 1000 at first, a FUND what PEOPLE GAVE it.")
    static void pointsAtFirst(Checks checks) {
        CouponSale sale = new CouponSale();
        sale.person(CouponSale.NONE);
        sale.person(CouponSale.NONE);
        sale.fund(0);
        checks.due("one of PEOPLE", sale.purse(0, 0), 1000);
        checks.due("a FUND", sale.purse(24, 0), 0);
        sale.give(0, 24, 1000);
        checks.due("who GAVE all", sale.purse(0, 0), 0);
        checks.due("a FUND that was GIVEN 1000", sale.purse(24, 0), 1000);
        sale.give(1, 24, 1);
        checks.due("who GAVE 1", sale.purse(1, 0), 999);
        checks.due("a FUND that was GIVEN 1001", sale.purse(24, 0), 1001);
        sale.close();
        sale.person(CouponSale.NONE);
        sale.fund(0);
        checks.due("one of PEOPLE that comes in ROUND 1", sale.purse(2, 0), 1000);
        checks.due("a FUND that comes in ROUND 1", sale.purse(25, 0), 0);
    }

    @Says(where = "Terms", words = "One of PEOPLE may be a worker of a WORK.")
    static void oneMayBeAWorkerOfAWork(Checks checks) {
        CouponSale sale = Sales.withRules("workers 50;");
        for (int w = 0; w < 10; w++) {
            sale.work(10, 10);
        }
        checks.due("a worker of the first WORK", sale.person(0), 0);
        checks.due("a worker of the last WORK", sale.person(9), 1);
        checks.due("a worker of none", sale.person(CouponSale.NONE), 2);
        for (int person = 0; person < 3; person++) {
            sale.bid(person, 0, 1);
            sale.bid(person, 9, 2);
        }
        sale.close();
        checks.due("half for the first WORK, all for the last", sale.purse(0, 0), 1000 - 5 - 20);
        checks.due("all for the first WORK, half for the last", sale.purse(1, 0), 1000 - 10 - 10);
        checks.due("who is a worker of none pays all", sale.purse(2, 0), 1000 - 10 - 20);
    }

    @Says(where = "Terms", words = "ROUND is 0 at first, 49 the last one.")
    static void roundsAre0To49(Checks checks) {
        CouponSale sale = Sales.of("", 10, 10, 1);
        for (int round = 0; round < 49; round++) {
            checks.due("ROUND", sale.count(0), round);
            checks.due("it ends", sale.close(), 0);
        }
        checks.due("the last ROUND", sale.count(0), 49);
        checks.due("it does not end", sale.close(), -1);
        checks.due("it is still the last ROUND", sale.count(0), 49);
    }

    @Says(where = "Terms", words = "A BID: a BIDDER asks for so many SHARES of a WORK"
        + " (one BID a WORK, a new one in the place of the one ahead);")
    static void aNewBidIsInThePlaceOfTheOneAhead(Checks checks) {
        CouponSale sale = Sales.of("", 10, 10, 2);
        sale.work(10, 10);
        sale.bid(0, 0, 4);
        checks.due("COST of a greater one in its place", sale.bid(0, 0, 6), 60);
        checks.due("a greater one in its place", sale.asks(0, 0), 6);
        checks.due("COST of a lesser one in its place", sale.bid(0, 0, 1), 10);
        checks.due("a lesser one in its place", sale.asks(0, 0), 1);
        sale.bid(0, 1, 2);
        checks.due("one of another WORK beside it", sale.asks(0, 0), 1);
        sale.bid(1, 0, 3);
        checks.due("one of another BIDDER beside it", sale.asks(0, 0), 1);
        checks.due("asked by all", sale.about(0, 3), 4);
        checks.due("sold", sale.close(), 6);
    }

    @Says(where = "Terms", words = "COST of all one's BIDS, at PRICES as they are, may not be above one's POINTS.")
    static void costMayNotBeAbovePoints(Checks checks) {
        CouponSale sale = Sales.of("fall 50;", 1000, 100, 1);
        sale.work(1000, 1);
        checks.due("just one's POINTS", sale.bid(0, 0, 10), 1000);
        checks.due("one point above", sale.bid(0, 1, 1), -1);
        checks.due("one SHARE less", sale.bid(0, 0, 9), 900);
        checks.due("just one's POINTS, of both", sale.bid(0, 1, 100), 1000);
        checks.due("one point above, of both", sale.bid(0, 1, 101), -1);
        sale.bid(0, 0, 0);
        sale.bid(0, 1, 0);
        sale.close();
        checks.due("at the PRICE as it is then", sale.bid(0, 0, 20), 1000);
        checks.due("above at the PRICE as it is then", sale.bid(0, 0, 21), -1);
        checks.due("one SHARE less at the PRICE as it is then", sale.bid(0, 0, 19), 950);
    }
}

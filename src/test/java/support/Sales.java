/** Sales that tests begin with. */
final class Sales {
    static final int LOW = Integer.MIN_VALUE;
    static final int HIGH = Integer.MAX_VALUE;

    private Sales() {
    }

    /** One WORK, so many PEOPLE who are workers of none. */
    static CouponSale of(String rules, int shares, int price, int people) {
        CouponSale sale = withRules(rules);
        sale.work(shares, price);
        addPeople(sale, people);
        return sale;
    }

    /** One WORK; so many PEOPLE who are workers of it, and then one who is not. */
    static CouponSale ofWorkers(String rules, int shares, int price, int workers) {
        CouponSale sale = withRules(rules);
        sale.work(shares, price);
        for (int n = 0; n < workers; n++) {
            sale.person(0);
        }
        sale.person(CouponSale.NONE);
        return sale;
    }

    static CouponSale withRules(String rules) {
        CouponSale sale = new CouponSale();
        if (Checks.rules(sale, rules) < 0) {
            throw new IllegalStateException("a test's own RULES have a FAULT: " + rules);
        }
        return sale;
    }

    static void addPeople(CouponSale sale, int people) {
        for (int n = 0; n < people; n++) {
            sale.person(CouponSale.NONE);
        }
    }

    /** One WORK and FUND 24 with 1000 points of each of 24 PEOPLE. */
    static CouponSale ofRichFund(String rules, int shares, int price, int promise) {
        CouponSale sale = of(rules, shares, price, 24);
        sale.fund(promise);
        for (int person = 0; person < 24; person++) {
            sale.give(person, 24, 1000);
        }
        return sale;
    }

    /**
     * A small one in ROUND 1, with something of everything: two WORKS, PEOPLE 0 (a worker of WORK 0) and 1,
     * FUND 24, SHARES held, BIDS, RULES, the FAULT of a text, bytes on the tape.
     */
    static CouponSale small() {
        CouponSale sale = withRules("cut 30;half 40;");
        sale.work(20, 10);
        sale.work(30, 3);
        sale.person(0);
        sale.person(CouponSale.NONE);
        sale.fund(90);
        sale.give(0, 24, 100);
        sale.give(1, 24, 200);
        sale.bid(0, 0, 7);
        sale.bid(24, 0, 9);
        sale.bid(1, 1, 11);
        sale.close();
        sale.bid(1, 0, 2);
        sale.bid(24, 1, 5);
        Checks.rules(sale, "cut 301;");
        sale.feed(1, 2, 3, 4, 5);
        return sale;
    }
}

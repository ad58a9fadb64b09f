import java.math.BigInteger;

/** "Terms": who owns how much, gifts, PROMISES, and calls that throw. */
final class SentencesOnOwning {
    private SentencesOnOwning() {
    }

    @Says(where = "Terms", words = "OWNED by one of PEOPLE of a WORK, AS OF a ROUND"
        + " (0: ahead of all sales; k: when k ROUNDS had ended):")
    static void ownedAsOfARound(Checks checks) {
        CouponSale sale = Sales.of("fall 100;", 50, 1, 1);
        for (int round = 0; round <= 49; round++) {
            dueOwned(checks, sale, new int[] {0, 0, 0}, 0, 1);
            long common = BigInteger.valueOf(round).gcd(BigInteger.valueOf(50)).longValue();
            dueOwned(checks, sale, new int[] {0, 0, round}, round / common, 50 / common);
            sale.bid(0, 0, 1);
            sale.close();
        }
        dueOwned(checks, sale, new int[] {0, 0, 1}, 1, 50);
        dueOwned(checks, sale, new int[] {0, 0, 48}, 24, 25);
        dueOwned(checks, sale, new int[] {0, 0, 49}, 49, 50);
    }

    @Says(where = "Terms", words = "the SHARES that one held then, and of those that each FUND held the part that is"
        + " what one GAVE it by all that it was GIVEN, by all SHARES.")
    static void ownedThroughFundsToo(Checks checks) {
        CouponSale sale = Sales.of("", 60, 10, 3);
        sale.fund(0);
        sale.fund(0);
        sale.fund(0);
        sale.give(0, 24, 100);
        sale.give(1, 24, 200);
        sale.give(1, 25, 50);
        sale.bid(0, 0, 7);
        sale.bid(24, 0, 12);
        sale.bid(25, 0, 5);
        sale.close();
        // 7 and 12 / 3 of 60; 12 * 2 / 3 and 5 of 60; none
        dueOwned(checks, sale, new int[] {0, 0, 1}, 11, 60);
        dueOwned(checks, sale, new int[] {1, 0, 1}, 13, 60);
        dueOwned(checks, sale, new int[] {2, 0, 1}, 0, 1);
        sale.bid(2, 0, 1);
        sale.bid(24, 0, 1);
        sale.close();
        dueOwned(checks, sale, new int[] {0, 0, 2}, 17, 90);
        dueOwned(checks, sale, new int[] {1, 0, 2}, 41, 180);
        dueOwned(checks, sale, new int[] {2, 0, 2}, 1, 60);
        dueOwned(checks, sale, new int[] {0, 0, 1}, 11, 60);
        // who comes later owns nothing through a FUND
        sale.person(CouponSale.NONE);
        dueOwned(checks, sale, new int[] {3, 0, 2}, 0, 1);
        // the least gift
        CouponSale least = Sales.of("", 2, 1, 1);
        least.fund(0);
        least.give(0, 24, 1);
        least.bid(24, 0, 1);
        least.close();
        dueOwned(checks, least, new int[] {0, 0, 1}, 1, 2);
    }

    @Says(where = "Terms", words = "A fraction is told by two numbers without a divisor in common:"
        + " its upper one (what 0), and its lower one (1), which is 1 or more;")
    static void aFractionHasNoDivisorInCommon(Checks checks) {
        // {SHARES, held, upper, lower}
        int[][] rows = {{1, 1, 1, 1}, {1000, 1000, 1, 1}, {1000, 500, 1, 2}, {1000, 999, 999, 1000}, {12, 8, 2, 3},
            {36, 24, 2, 3}, {997, 996, 996, 997}, {1000, 1, 1, 1000}};
        for (int[] row : rows) {
            CouponSale sale = Sales.of("", row[0], 1, 1);
            sale.bid(0, 0, row[1]);
            sale.close();
            dueOwned(checks, sale, new int[] {0, 0, 1}, row[2], row[3]);
        }
        // a third through each of three FUNDS that were GIVEN 3, 7 and 11, is one whole
        CouponSale whole = Sales.of("", 3, 1, 1);
        int[] given = {3, 7, 11};
        for (int f = 0; f < 3; f++) {
            whole.fund(0);
            whole.give(0, 24 + f, given[f]);
            whole.bid(24 + f, 0, 1);
        }
        whole.close();
        dueOwned(checks, whole, new int[] {0, 0, 1}, 1, 1);
    }

    /** Four FUNDS that were GIVEN primes near 6000: the greatest lower numbers that can be. */
    @Says(where = "Terms", words = "A fraction is told by two numbers without a divisor in common:"
        + " its upper one (what 0), and its lower one (1), which is 1 or more;")
    static void aFractionOfLargeNumbers(Checks checks) {
        int[] given = {6007, 6011, 5987, 5981};
        int[] byThatOne = {1, 2, 3, 4};
        CouponSale sale = Sales.of("", 997, 1, 24);
        for (int f = 0; f < 4; f++) {
            sale.fund(0);
            sale.give(23, 24 + f, byThatOne[f]);
        }
        for (int giver = 0, f = 0; f < 4; f++) {
            for (int rest = given[f] - byThatOne[f]; rest > 0;) {
                int points = Math.min(rest, sale.purse(giver, 0));
                byThatOne[f] += giver == 23 ? points : 0;
                sale.give(giver, 24 + f, points);
                rest -= points;
                giver += rest > 0 ? 1 : 0;
            }
            sale.bid(24 + f, 0, 200);
        }
        sale.close();
        BigInteger lower = BigInteger.valueOf(997);
        for (int all : given) {
            lower = lower.multiply(BigInteger.valueOf(all));
        }
        BigInteger upper = BigInteger.ZERO;
        for (int f = 0; f < 4; f++) {
            BigInteger others = lower.divide(BigInteger.valueOf(997L * given[f]));
            upper = upper.add(others.multiply(BigInteger.valueOf(200L * byThatOne[f])));
        }
        checks.due("no divisor in common", upper.gcd(lower).longValueExact(), 1);
        dueOwned(checks, sale, new int[] {23, 0, 1}, upper.longValueExact(), lower.longValueExact());
    }

    @Says(where = "Terms", words = "0 is 0 by 1.")
    static void noughtIs0By1(Checks checks) {
        CouponSale sale = Sales.of("", 1000, 1, 2);
        sale.fund(0);
        sale.give(0, 24, 500);
        sale.bid(24, 0, 10);
        dueOwned(checks, sale, new int[] {0, 0, 0}, 0, 1);
        sale.close();
        dueOwned(checks, sale, new int[] {0, 0, 0}, 0, 1);
        dueOwned(checks, sale, new int[] {1, 0, 0}, 0, 1);
        dueOwned(checks, sale, new int[] {1, 0, 1}, 0, 1);
        sale.work(7, 7);
        dueOwned(checks, sale, new int[] {0, 1, 0}, 0, 1);
        dueOwned(checks, sale, new int[] {0, 1, 1}, 0, 1);
    }

    @Says(where = "Terms", words = "(POINTS are GIVEN in ROUND 0 alone, ahead of its end.)")
    static void pointsAreGivenInRound0Alone(Checks checks) {
        CouponSale sale = Sales.of("", 10, 1, 1);
        sale.fund(0);
        checks.due("GIVEN in ROUND 0", sale.give(0, 24, 5), 5);
        for (int round = 1; round <= 49; round++) {
            sale.close();
            checks.due("GIVEN in ROUND " + round, sale.give(0, 24, 5), -1);
        }
        checks.due("what the FUND was GIVEN", sale.purse(24, 2), 5);
        checks.due("POINTS of the giver", sale.purse(0, 0), 995);
    }

    @Says(where = "Terms", words = "A FUND PROMISES so many hundredths (0 to 500) of what it was GIVEN:")
    static void aFundPromises0To500Hundredths(Checks checks) {
        CouponSale sale = new CouponSale();
        sale.person(CouponSale.NONE);
        int[] wrong = {-1, 501, Sales.LOW, Sales.HIGH};
        for (int promise : wrong) {
            checks.due("PROMISE " + promise, sale.fund(promise), -1);
        }
        int[] right = {0, 100, 101, 500};
        int[] kept = {1, 1, 0, 0};
        for (int f = 0; f < 4; f++) {
            checks.due("PROMISE " + right[f], sale.fund(right[f]), 24 + f);
            checks.due("KEPT with nothing GIVEN", sale.purse(24 + f, 3), 1);
            sale.give(0, 24 + f, 200);
            checks.due("KEPT with 200 of 200, PROMISE " + right[f], sale.purse(24 + f, 3), kept[f]);
        }
    }

    @Says(where = "Terms",
        words = "it is KEPT, if what it holds, at PRICES of now, with its POINTS, is that at least.")
    static void aPromiseIsKeptJustAtIt(Checks checks) {
        // {SHARES bought of 10 at 10, points GIVEN, PROMISE, KEPT}: PRICE falls to 5, or to 1 a SHARE asked of 10
        int[][] rows = {{2, 100, 90, 1}, {2, 100, 91, 0}, {4, 100, 80, 1}, {4, 100, 81, 0}, {10, 100, 100, 1},
            {10, 100, 101, 0}, {8, 80, 80, 1}, {8, 80, 81, 0}, {0, 1, 100, 1}, {0, 1, 101, 0}, {0, 1, 0, 1},
            {1, 333, 98, 1}, {1, 333, 99, 0}};
        for (int[] row : rows) {
            CouponSale sale = Sales.of("", 10, 10, 1);
            sale.fund(row[2]);
            sale.give(0, 24, row[1]);
            sale.bid(24, 0, row[0]);
            sale.close();
            checks.due(row[0] + " bought with " + row[1] + ", PROMISE " + row[2], sale.purse(24, 3), row[3]);
        }
    }

    @Says(where = "Terms",
        words = "it is KEPT, if what it holds, at PRICES of now, with its POINTS, is that at least.")
    static void aPromiseIsKeptByAllWorksAtPricesOfNow(Checks checks) {
        CouponSale sale = Sales.of("fall 100;", 10, 10, 2);
        sale.work(10, 20);
        sale.fund(150);
        sale.give(0, 24, 100);
        sale.bid(24, 0, 4);
        sale.bid(24, 1, 3);
        sale.close();
        checks.due("40 and 60 of 100", sale.purse(24, 3), 0);
        sale.bid(1, 1, 12);
        sale.close();
        checks.due("PRICE of WORK 1", sale.about(1, 2), 35);
        checks.due("40 and 105 of 100", sale.purse(24, 3), 0);
        sale.bid(1, 0, 8);
        sale.close();
        checks.due("PRICE of WORK 0", sale.about(0, 2), 14);
        checks.due("56 and 105 of 100", sale.purse(24, 3), 1);
    }

    /** A hundred times the worth of 6993 SHARES at 9999 is below 0 as an int. */
    @Says(where = "Terms",
        words = "it is KEPT, if what it holds, at PRICES of now, with its POINTS, is that at least.")
    static void aPromiseOfLargeNumbersIsKept(Checks checks) {
        CouponSale sale = Sales.ofRichFund("", 1000, 1, 500);
        sale.bid(24, 0, 999);
        for (int w = 1; w < 7; w++) {
            sale.work(1000, 1);
            sale.bid(24, w, 999);
        }
        sale.close();
        Checks.rules(sale, "least 9999;");
        sale.close();
        checks.due("SHARES", sale.purse(24, 4), 6993);
        checks.due("PRICE", sale.about(6, 2), 9999);
        checks.due("KEPT", sale.purse(24, 3), 1);
    }

    @Says(where = "Terms", words = "A call that throws changes nothing.")
    static void aPurseThatThrowsChangesNothing(Checks checks) {
        int[][] purses = {{2, 0}, {-1, 1}, {23, 2}, {25, 3}, {28, 4}, {Sales.LOW, 0}, {Sales.HIGH, 0}, {0, 5}, {0, -1},
            {24, 5}, {24, Sales.HIGH}};
        for (int[] p : purses) {
            CouponSale sale = Sales.small();
            checks.dueThrowAndAllStays("purse " + p[0] + ", " + p[1], sale, () -> sale.purse(p[0], p[1]));
        }
    }

    @Says(where = "Terms", words = "A call that throws changes nothing.")
    static void anOwnedThatThrowsChangesNothing(Checks checks) {
        int[][] wrong = {{2, 0, 0, 0}, {24, 0, 0, 0}, {-1, 0, 0, 0}, {0, 2, 0, 0}, {0, -1, 0, 0}, {0, 0, 2, 0},
            {0, 0, -1, 0}, {0, 0, 0, 2}, {0, 0, 0, -1}};
        for (int[] o : wrong) {
            CouponSale sale = Sales.small();
            checks.dueThrowAndAllStays("owned " + o[0] + ", " + o[1] + ", " + o[2] + ", " + o[3], sale,
                () -> sale.owned(o[0], o[1], o[2], o[3]));
        }
    }

    private static void dueOwned(Checks checks, CouponSale sale, int[] at, long upper, long lower) {
        String what = "OWNED by " + at[0] + " of WORK " + at[1] + " AS OF " + at[2];
        checks.due(what + ", upper", sale.owned(at[0], at[1], at[2], 0), upper);
        checks.due(what + ", lower", sale.owned(at[0], at[1], at[2], 1), lower);
    }
}

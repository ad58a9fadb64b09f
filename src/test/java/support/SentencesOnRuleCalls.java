/** Promises 2 to 6: feed, end, rules, fault, rule. */
final class SentencesOnRuleCalls {
    private SentencesOnRuleCalls() {
    }

    @Says(where = "Promise 2", words = "Twenty bytes come behind the tape, of each number the highest first:")
    static void feedPutsTheHighestByteFirst(Checks checks) {
        CouponSale sale = new CouponSale();
        // "work" "ers " "1;ha" "lf 2" ";cut", and behind these " 3; " and blanks
        sale.feed(0x776F726B, 0x65727320, 0x313B6861, 0x6C662032, 0x3B637574);
        sale.feed(0x20333B20, 0x20202020, 0x20202020, 0x20202020, 0x0A0A0A0A);
        checks.due("rules", sale.rules(), 3);
        checks.due("workers", sale.rule(0), 1);
        checks.due("half", sale.rule(1), 2);
        checks.due("cut", sale.rule(2), 3);
        // bytes from 128 on make numbers below 0, and are no blanks or letters
        int blanks = 0x20202020;
        int[][] rows = {{0xE0202020, blanks, blanks, blanks, blanks}, {blanks, 0x20A02020, blanks, blanks, blanks},
            {blanks, blanks, 0x20208A20, blanks, blanks}, {blanks, blanks, blanks, 0x202020FF, blanks},
            {blanks, blanks, blanks, blanks, 0x202020A0}};
        int[] places = {0, 5, 10, 15, 19};
        for (int i = 0; i < rows.length; i++) {
            sale.feed(rows[i][0], rows[i][1], rows[i][2], rows[i][3], rows[i][4]);
            checks.due("the only byte that is no blank", sale.rules(), -1 - places[i]);
        }
    }

    @Says(where = "Promise 2", words = "how many it has;")
    static void feedTellsHowManyBytesThereAre(Checks checks) {
        CouponSale sale = new CouponSale();
        for (int n = 20; n <= 140; n += 20) {
            checks.due("feed", sale.feed(0, -1, 0, -1, 0), n);
        }
        sale.end(3);
        checks.due("feed behind 3", sale.feed(0, 0, 0, 0, 0), 23);
        sale.rules();
        checks.due("feed behind rules", sale.feed(0, 0, 0, 0, 0), 20);
    }

    @Says(where = "Promise 2", words = "NONE, and none come, if it would have more than 140.")
    static void feedRefusesMoreThan140(Checks checks) {
        for (int has = 119; has <= 140; has++) {
            CouponSale sale = new CouponSale();
            Checks.tape(sale, "cut 7;" + " ".repeat(has - 6));
            checks.due("the tape", sale.count(5), has);
            boolean room = has + 20 <= 140;
            // "####" five times
            checks.due("feed behind " + has, sale.feed(0x23232323, 0x23232323, 0x23232323, 0x23232323, 0x23232323),
                room ? has + 20 : -1);
            checks.due("the tape then", sale.count(5), room ? has + 20 : has);
            sale.end(120);
            checks.due("its first 120 bytes then", sale.rules(), has == 119 ? -120 : 1);
        }
    }

    @Says(where = "Promise 3", words = "The tape has its first n bytes alone: true;")
    static void endKeepsTheFirstBytes(Checks checks) {
        CouponSale sale = new CouponSale();
        checks.due("end(0) of an empty tape", sale.end(0), true);
        Checks.tape(sale, "cut 7;half 8;#######");
        checks.due("end of all 20", sale.end(20), true);
        checks.due("all 20", sale.count(5), 20);
        checks.due("end of 19", sale.end(19), true);
        checks.due("19", sale.count(5), 19);
        checks.due("end of 6", sale.end(6), true);
        checks.due("6", sale.count(5), 6);
        // what was behind is gone: "  fa" "ll 9" ";   " and blanks come instead
        sale.feed(0x20206661, 0x6C6C2039, 0x3B202020, 0x20202020, 0x20202020);
        checks.due("rules", sale.rules(), 2);
        checks.due("cut", sale.rule(2), 7);
        checks.due("half", sale.rule(1), 50);
        checks.due("fall", sale.rule(4), 9);
        // an end within a TOKEN: its other bytes do not go it on
        Checks.tape(sale, "cut 7;halfx");
        sale.end(10);
        checks.due("rules of 'cut 7;half'", sale.rules(), -11);
        Checks.tape(sale, "####");
        checks.due("end(0) of 4", sale.end(0), true);
        checks.due("an empty tape", sale.count(5), 0);
        checks.due("rules of an empty tape", sale.rules(), 0);
        Checks.tape(sale, " ".repeat(140));
        checks.due("end of all 140", sale.end(140), true);
    }

    @Says(where = "Promise 3", words = "false, if it has not so many, or n is below 0.")
    static void endRefusesWhatThereIsNot(Checks checks) {
        CouponSale sale = new CouponSale();
        checks.due("end(1) of an empty tape", sale.end(1), false);
        checks.due("end(-1) of an empty tape", sale.end(-1), false);
        Checks.tape(sale, "cut 7;");
        int[] wrong = {7, 8, 20, 140, 141, -1, -6, Sales.LOW, Sales.HIGH};
        for (int n : wrong) {
            checks.due("end(" + n + ") of 6", sale.end(n), false);
            checks.due("the tape has 6", sale.count(5), 6);
        }
        checks.due("and they are as they were", sale.rules(), 1);
        checks.due("cut", sale.rule(2), 7);
    }

    @Says(where = "Promise 4", words = "The tape (empty then) are the RULES from now on:")
    static void rulesEmptyTheTapeAndHoldFromNowOn(Checks checks) {
        CouponSale sale = new CouponSale();
        Checks.tape(sale, "cut 7;half 8;");
        checks.due("cut ahead", sale.rule(2), 25);
        sale.rules();
        checks.due("an empty tape", sale.count(5), 0);
        dueRules(checks, sale, 10, 8, 7, 200, 50, 1);
        Checks.rules(sale, "half 9;");
        dueRules(checks, sale, 10, 9, 25, 200, 50, 1);
        sale.rules();
        dueRules(checks, sale, 10, 50, 25, 200, 50, 1);
        Checks.rules(sale, "cut 7;#");
        checks.due("an empty tape with a FAULT too", sale.count(5), 0);
        checks.due("so that rules again has none", sale.rules(), 0);
    }

    @Says(where = "Promise 4", words = "The tape (empty then) are the RULES from now on:")
    static void rulesHoldForTheRoundsThatEndFromNowOn(Checks checks) {
        CouponSale sale = Sales.of("", 10, 100, 1);
        sale.close();
        checks.due("PRICE by the RULES at first", sale.about(0, 2), 50);
        Checks.rules(sale, "fall 10;");
        checks.due("PRICE stays with new RULES", sale.about(0, 2), 50);
        sale.close();
        checks.due("PRICE by the new RULES", sale.about(0, 2), 5);
        checks.due("PRICE of the ROUND ahead", sale.price(0, 1), 50);
    }

    @Says(where = "Promise 4", words = "how many were told;")
    static void rulesTellHowMany(Checks checks) {
        String[] told = {"workers 1;", "half 2;", "cut 3;", "rise 104;", "fall 5;", "least 6;"};
        StringBuilder text = new StringBuilder();
        CouponSale sale = new CouponSale();
        checks.due("none", sale.rules(), 0);
        for (int n = 0; n < told.length; n++) {
            text.append(told[n]);
            checks.due(text.toString(), Checks.rules(sale, text.toString()), n + 1);
        }
        checks.due("none but blanks", Checks.rules(sale, "\n \n"), 0);
        // as without it, yet told
        checks.due("cut 25;", Checks.rules(sale, "cut 25;"), 1);
    }

    @Says(where = "Promise 4", words = "-1 less the place of a FAULT: they stay.")
    static void rulesStayWithAFault(Checks checks) {
        CouponSale sale = new CouponSale();
        Checks.rules(sale, "workers 1;half 2;cut 3;rise 104;fall 5;least 6;");
        String[] texts = {"#", "workers 9;half 9;cut 9;rise 199;fall 9;least 9;#", "workers 9;half 0;", "cut 9;cut 9;",
            "cut 9;half", "cut 9;" + " ".repeat(134)};
        int[] answers = {-1, -48, -16, -7, -11, -121};
        for (int i = 0; i < texts.length; i++) {
            checks.due("rules of '" + texts[i] + "'", Checks.rules(sale, texts[i]), answers[i]);
            dueRules(checks, sale, 1, 2, 3, 104, 5, 6);
        }
    }

    @Says(where = "Promise 5", words = "The kind of the FAULT of the latest rules();")
    static void faultIsOfTheLatestRules(Checks checks) {
        CouponSale sale = new CouponSale();
        Object[][] rows = {{"#", 1}, {"half 0;", 2}, {"cut 7;cut 7;", 3}, {"cut 7;", 0}, {"cut 301;", 2}, {"cut", 1},
            {"", 0}, {"cut 7;cut", 3}, {" ".repeat(121), 1}};
        for (Object[] row : rows) {
            Checks.rules(sale, (String) row[0]);
            checks.due("fault of '" + row[0] + "'", sale.fault(), (Integer) row[1]);
            checks.due("and once more", sale.fault(), (Integer) row[1]);
        }
        sale.feed(0x20202020, 0x20202020, 0x20202020, 0x20202020, 0x20202020);
        sale.end(3);
        sale.close();
        checks.due("till the next rules", sale.fault(), 1);
        sale.rules();
        checks.due("of the next rules", sale.fault(), 0);
    }

    @Says(where = "Promise 5", words = "0 without one and ahead of any.")
    static void faultIs0WithoutOneAndAheadOfAny(Checks checks) {
        CouponSale sale = new CouponSale();
        checks.due("ahead of any", sale.fault(), 0);
        Checks.tape(sale, "#");
        checks.due("with a tape that would have one", sale.fault(), 0);
        sale.end(0);
        sale.rules();
        checks.due("without one, of no bytes", sale.fault(), 0);
        Checks.rules(sale, "cut 7;");
        checks.due("without one", sale.fault(), 0);
    }

    @Says(where = "Promise 6", words = "RULE k now (0 to 5: workers, half, cut, rise, fall, least).")
    static void ruleTellsEachOne(Checks checks) {
        CouponSale sale = new CouponSale();
        dueRules(checks, sale, 10, 50, 25, 200, 50, 1);
        Checks.rules(sale, "least 6;fall 5;rise 104;cut 3;half 2;workers 1;");
        dueRules(checks, sale, 1, 2, 3, 104, 5, 6);
        Checks.tape(sale, "cut 4;");
        checks.due("with a tape that is not yet read", sale.rule(2), 3);
    }

    @Says(where = "Promise 6", words = "NONE for another k.")
    static void ruleOfAnotherNumberIsNone(Checks checks) {
        CouponSale sale = new CouponSale();
        int[] others = {-1, 6, 7, -6, 256, Sales.LOW, Sales.HIGH};
        for (int k : others) {
            checks.due("rule " + k, sale.rule(k), -1);
        }
    }

    private static void dueRules(Checks checks, CouponSale sale, int... due) {
        for (int k = 0; k < due.length; k++) {
            checks.due("rule " + k, sale.rule(k), due[k]);
        }
    }
}

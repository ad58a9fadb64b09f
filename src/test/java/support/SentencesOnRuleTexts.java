/** "Terms": the text that RULES are, its TOKENS and its FAULTS. */
final class SentencesOnRuleTexts {
    private SentencesOnRuleTexts() {
    }

    @Says(where = "Terms", words = "RULES are a text of at most 120 bytes.")
    static void aTextHasAtMost120Bytes(Checks checks) {
        dueTold(checks, filled("cut 7;", 119), 1);
        dueTold(checks, filled("cut 7;", 120), 1);
        dueTold(checks, filled("", 114) + "cut 7;", 1);
        dueFault(checks, filled("cut 7;", 121), 120, 1);
        dueFault(checks, filled("", 115) + "cut 7;", 120, 1);
        dueFault(checks, filled("cut 7;", 140), 120, 1);
    }

    @Says(where = "Terms", words = "TOKENS, with blanks (32, 10) between them or not:")
    static void blanksAre32And10(Checks checks) {
        dueTold(checks, "cut 7;half 8;", 2);
        dueTold(checks, "\n\n  cut\n7\n;\n \nhalf  8  ;  ", 2);
        dueTold(checks, " ", 0);
        dueTold(checks, "\n", 0);
        int[] noBlanks = {0, 1, 8, 9, 11, 12, 13, 31, 33, 42, 64, 127, 128, 138, 160, 255};
        for (int sign : noBlanks) {
            dueFault(checks, "cut" + (char) sign + "7;", 3, 1);
            dueFault(checks, "cut 7;" + (char) sign, 6, 1);
            dueFault(checks, "" + (char) sign, 0, 1);
        }
    }

    @Says(where = "Terms", words = "WORDS: small letters;")
    static void wordsAreSmallLetters(Checks checks) {
        dueTold(checks, "fall 7;", 1);
        int[] noSmallLetters = {'A', 'F', 'Z', 96, 123, '_', '-', 128 + 'f', 256 - 26, 255};
        for (int sign : noSmallLetters) {
            dueFault(checks, (char) sign + "all 7;", 0, 1);
            dueFault(checks, "fal" + (char) sign + " 7;", 0, 1);
        }
        // each small letter goes on a WORD, and is no NUMBER
        for (char sign = 'a'; sign <= 'z'; sign++) {
            dueFault(checks, "cut" + sign + " 7;", 0, 1);
            dueFault(checks, "cut " + sign + ";", 4, 1);
        }
    }

    @Says(where = "Terms", words = "NUMBERS: 1 to 4 digits; ; .")
    static void numbersHave1To4Digits(Checks checks) {
        String[] numbers = {"1", "12", "123", "9876", "0001", "4560", "0908"};
        for (String number : numbers) {
            CouponSale sale = dueTold(checks, "least " + number + ";", 1);
            checks.due("least " + number, sale.rule(5), Integer.parseInt(number));
        }
        dueFault(checks, "least 12345;", 6, 1);
        dueFault(checks, "least 00001;", 6, 1);
        dueFault(checks, "least 4294967297;", 6, 1);
        int[] noDigits = {'/', ':', 128 + '1', 178, 'O', '-', '+', '.'};
        for (int sign : noDigits) {
            dueFault(checks, "least " + (char) sign + "1;", 6, 1);
        }
        dueFault(checks, "least 1,", 7, 1);
        dueFault(checks, "least 1:", 7, 1);
        dueFault(checks, "least 1" + (char) (128 + ';'), 7, 1);
    }

    @Says(where = "Terms", words = "(A WORD, NUMBER goes on as long as small letters and digits do;")
    static void aTokenGoesOnAsLongAsLettersAndDigitsDo(Checks checks) {
        dueFault(checks, "cut7;", 0, 1);
        dueFault(checks, "cut 7half 8;", 4, 1);
        dueFault(checks, "cuthalf 7;", 0, 1);
        dueFault(checks, "cut 7;half8;", 6, 1);
        dueTold(checks, "cut 12;", 1);
        dueFault(checks, "cut 1 2;", 6, 1);
        dueFault(checks, "cu t 7;", 0, 1);
        dueFault(checks, "cut\n7;cut", 6, 3);
    }

    @Says(where = "Terms", words = "what is not as told is no TOKEN.)")
    static void whatIsNotAsToldIsNoToken(Checks checks) {
        dueFault(checks, "7cut", 0, 1);
        dueFault(checks, "cut 0x7;", 4, 1);
        dueFault(checks, "cut 7a;", 4, 1);
        dueFault(checks, "cut a7;", 4, 1);
        dueFault(checks, "cut 00007", 4, 1);
        dueFault(checks, "cut 7;12345", 6, 1);
        dueFault(checks, "cut 7;cut8", 6, 1);
        dueFault(checks, "cut 7 #", 6, 1);
        // a WORD ends ahead of what is no TOKEN, which is the FAULT then
        dueFault(checks, "cut# 7;", 3, 1);
        dueFault(checks, "cut 7#;", 5, 1);
    }

    @Says(where = "Terms", words = "TEXT: { RULE }.")
    static void aTextHasAnyNumberOfRules(Checks checks) {
        dueTold(checks, "", 0);
        dueTold(checks, "cut 7;", 1);
        dueTold(checks, "cut 7;half 7;", 2);
        dueTold(checks, "workers 7;half 7;cut 7;rise 107;fall 7;least 7;", 6);
        dueTold(checks, "least 7;fall 7;rise 107;cut 7;half 7;workers 7;", 6);
        dueFault(checks, ";", 0, 1);
        dueFault(checks, "cut 7;;", 6, 1);
    }

    @Says(where = "Terms", words = "RULE: one of these WORDS, a NUMBER, ; :")
    static void aRuleIsAWordANumberAndASemicolon(Checks checks) {
        String[] words = {"workers", "half", "cut", "fall", "least"};
        for (String word : words) {
            dueTold(checks, word + " 7;", 1);
            dueFault(checks, word + ";", word.length(), 1);
            dueFault(checks, word + " 7", word.length() + 2, 1);
            dueFault(checks, word + " 7 7;", word.length() + 3, 1);
            dueFault(checks, word + " " + word + " 7;", word.length() + 1, 1);
            dueFault(checks, word + "s 7;", 0, 1);
            dueFault(checks, word.substring(1) + " 7;", 0, 1);
            dueFault(checks, word.substring(0, word.length() - 1) + " 7;", 0, 1);
            for (int i = 0; i < word.length(); i++) {
                dueFault(checks, word.substring(0, i) + "x" + word.substring(i + 1) + " 7;", 0, 1);
            }
        }
        dueFault(checks, "7;", 0, 1);
        dueFault(checks, "7 cut;", 0, 1);
        dueFault(checks, "cut 7 half 8;", 6, 1);
        dueFault(checks, "rules 7;", 0, 1);
    }

    @Says(where = "Terms", words = "workers (0 to 50; 10 without it),")
    static void workersIs0To50(Checks checks) {
        dueRange(checks, 0, "workers", 0, 50, 10);
    }

    @Says(where = "Terms", words = "half (1 to 100; 50),")
    static void halfIs1To100(Checks checks) {
        dueRange(checks, 1, "half", 1, 100, 50);
    }

    @Says(where = "Terms", words = "cut (0 to 300; 25),")
    static void cutIs0To300(Checks checks) {
        dueRange(checks, 2, "cut", 0, 300, 25);
    }

    @Says(where = "Terms", words = "rise (100 to 999; 200),")
    static void riseIs100To999(Checks checks) {
        dueRange(checks, 3, "rise", 100, 999, 200);
    }

    @Says(where = "Terms", words = "fall (1 to 100; 50),")
    static void fallIs1To100(Checks checks) {
        dueRange(checks, 4, "fall", 1, 100, 50);
    }

    @Says(where = "Terms", words = "least (1 to 9999; 1);")
    static void leastIs1To9999(Checks checks) {
        dueRange(checks, 5, "least", 1, 9999, 1);
        dueFault(checks, "least 10000;", 6, 1);
    }

    @Says(where = "Terms", words = "each once at most.")
    static void eachRuleOnceAtMost(Checks checks) {
        String[] rules = {"workers 7;", "half 7;", "cut 7;", "rise 107;", "fall 7;", "least 7;"};
        for (String rule : rules) {
            for (String other : rules) {
                if (rule.equals(other)) {
                    dueFault(checks, rule + other, rule.length(), 3);
                } else {
                    dueTold(checks, rule + other, 2);
                    dueFault(checks, rule + other + rule, rule.length() + other.length(), 3);
                }
            }
        }
        // a text tells anew: those of the text ahead don't count
        CouponSale sale = new CouponSale();
        Checks.rules(sale, "cut 7;");
        checks.due("cut in the next text", Checks.rules(sale, "cut 8;"), 1);
        Checks.rules(sale, "half 9;#");
        checks.due("half behind a text with a FAULT", Checks.rules(sale, "half 9;"), 1);
    }

    @Says(where = "Terms", words = "FAULTS, the first along the text,")
    static void theFirstFaultAlongTheText(Checks checks) {
        dueFault(checks, "cut 301;half 0;", 4, 2);
        dueFault(checks, "cut 301;#", 4, 2);
        dueFault(checks, "# cut 301;", 0, 1);
        dueFault(checks, "cut 7;cut 301;", 6, 3);
        dueFault(checks, "cut 7;cut #", 6, 3);
        dueFault(checks, "cut 7;half 0;cut 7;", 11, 2);
        dueFault(checks, "cut 7;half 0", 11, 2);
        dueFault(checks, "half 0", 5, 2);
        dueFault(checks, "cut 7 8;cut 7;", 6, 1);
    }

    @Says(where = "Terms", words = "of one TOKEN the least:")
    static void ofOneTokenTheLeastFault(Checks checks) {
        // no TOKEN, and above what is told
        dueFault(checks, "cut 12345;", 4, 1);
        // a NUMBER that can't come, and above what is told
        dueFault(checks, "cut 7 9999;", 6, 1);
        dueFault(checks, "9999;", 0, 1);
        // a WORD that can't come, of a RULE that was told
        dueFault(checks, "cut 7 cut", 6, 1);
        dueFault(checks, "cut 7;half cut", 11, 1);
        // the end of the 120 bytes, and a WORD of a RULE that was told
        dueFault(checks, filled("cut 7;", 120) + "cut 7;", 120, 1);
    }

    @Says(where = "Terms", words = "1 no TOKEN, or one that can't come (at it;")
    static void fault1AtWhatCannotCome(Checks checks) {
        dueFault(checks, "#", 0, 1);
        dueFault(checks, "  #", 2, 1);
        dueFault(checks, "cut #", 4, 1);
        dueFault(checks, "cut 7#", 5, 1);
        dueFault(checks, "cut 7;#", 6, 1);
        dueFault(checks, "cut 7; 7", 7, 1);
        dueFault(checks, "cut 7; ;", 7, 1);
        dueFault(checks, "cut half", 4, 1);
        dueFault(checks, "cut ;", 4, 1);
        dueFault(checks, "cut 7 7", 6, 1);
        dueFault(checks, "cut 7 half", 6, 1);
        dueFault(checks, "cut 7;cuts 7;", 6, 1);
    }

    @Says(where = "Terms", words = "the end: how many bytes there are;")
    static void fault1AtTheEnd(Checks checks) {
        dueFault(checks, "cut", 3, 1);
        dueFault(checks, "cut ", 4, 1);
        dueFault(checks, "cut 7", 5, 1);
        dueFault(checks, "cut 7\n\n", 7, 1);
        dueFault(checks, "cut 7;half", 10, 1);
        dueFault(checks, "cut 7;half 8", 12, 1);
        dueFault(checks, filled("cut", 119), 119, 1);
        dueFault(checks, filled("cut 7", 120), 120, 1);
    }

    @Says(where = "Terms", words = "120, if there are more and no FAULT is ahead:")
    static void fault1At120IfThereAreMore(Checks checks) {
        dueFault(checks, filled("", 121), 120, 1);
        dueFault(checks, filled("", 140), 120, 1);
        dueFault(checks, filled("cut 7;", 121), 120, 1);
        dueFault(checks, filled("cut 7", 121), 120, 1);
        dueFault(checks, filled("cut", 140), 120, 1);
        dueFault(checks, filled("cut 7", 120) + ";", 120, 1);
        dueFault(checks, filled("cut 7;", 120) + "#", 120, 1);
        dueFault(checks, filled("cut", 120) + "301;", 120, 1);
        // a FAULT ahead is the one that is told
        dueFault(checks, filled("cut 301;", 140), 4, 2);
        dueFault(checks, filled("cut 7;cut 7;", 121), 6, 3);
        dueFault(checks, filled("cut 7;", 119) + "# ", 119, 1);
    }

    @Says(where = "Terms", words = "TOKENS that begin ahead of it are read whole);")
    static void tokensThatBeginAheadOf120AreReadWhole(Checks checks) {
        // by its first byte alone 3 would be as told, and 1234 a NUMBER
        dueFault(checks, filled("cut", 119) + "301;", 119, 2);
        dueFault(checks, filled("cut", 119) + "300;", 120, 1);
        dueFault(checks, filled("cut", 116) + "12345;", 116, 1);
        dueFault(checks, filled("cut", 116) + "1234;", 116, 2);
        dueFault(checks, filled("cut", 117) + "100;", 120, 1);
        dueFault(checks, filled("cut", 119) + "7x;", 119, 1);
        // by its first bytes alone cu would be no WORD of a RULE, and cut would be one
        dueFault(checks, filled("", 118) + "cut 7;", 120, 1);
        dueFault(checks, filled("", 117) + "cuts 7;", 117, 1);
        dueFault(checks, filled("cut 7;", 118) + "cut 7;", 118, 3);
        // to the last byte of the tape
        dueFault(checks, filled("least", 119) + "9".repeat(21), 119, 1);
        dueFault(checks, filled("", 119) + "c".repeat(21), 119, 1);
        dueFault(checks, filled("cut", 119) + ";", 119, 1);
    }

    @Says(where = "Terms", words = "2 a NUMBER that is not as told (at it);")
    static void fault2AtANumberNotAsTold(Checks checks) {
        dueFault(checks, "workers 51;", 8, 2);
        dueFault(checks, "workers\n\n 51", 10, 2);
        dueFault(checks, "half 0;", 5, 2);
        dueFault(checks, "half 0000;", 5, 2);
        dueFault(checks, "cut 9999;", 4, 2);
        dueFault(checks, "rise 0099;", 5, 2);
        dueFault(checks, "cut 7;rise 1000;", 11, 2);
        dueFault(checks, "least 0;", 6, 2);
    }

    @Says(where = "Terms", words = "3 a RULE told twice (at its WORD).")
    static void fault3AtTheWordOfARuleToldTwice(Checks checks) {
        dueFault(checks, "cut 7;cut 7;", 6, 3);
        dueFault(checks, "cut 7;\n\n cut 8;", 9, 3);
        dueFault(checks, "cut 7;half 7;rise 107;half 8;", 22, 3);
        // it is the first FAULT along the text, whatever comes behind the WORD
        dueFault(checks, "cut 7;cut", 6, 3);
        dueFault(checks, "cut 7;cut;", 6, 3);
        dueFault(checks, "cut 7;cut 301;", 6, 3);
        dueFault(checks, "cut 7;cut 12345;", 6, 3);
        dueFault(checks, "cut 7;cut cut", 6, 3);
        dueFault(checks, "cut 7;cut 7", 6, 3);
        dueFault(checks, "cut 7;cut#", 6, 3);
    }

    private static void dueRange(Checks checks, int k, String word, int low, int high, int untold) {
        int place = word.length() + 1;
        checks.due(word + " without a text", new CouponSale().rule(k), untold);
        checks.due(word + " without it", dueTold(checks, k == 0 ? "cut 7;" : "workers 7;", 1).rule(k), untold);
        checks.due(word + " the least", dueTold(checks, word + " " + low + ";", 1).rule(k), low);
        checks.due(word + " the greatest", dueTold(checks, word + " " + high + ";", 1).rule(k), high);
        if (low > 0) {
            dueFault(checks, word + " " + (low - 1) + ";", place, 2);
        }
        if (high < 9999) {
            dueFault(checks, word + " " + (high + 1) + ";", place, 2);
            dueFault(checks, word + " 9999;", place, 2);
        }
    }

    private static CouponSale dueTold(Checks checks, String text, int told) {
        CouponSale sale = new CouponSale();
        checks.due("rules of '" + text + "'", Checks.rules(sale, text), told);
        checks.due("fault of '" + text + "'", sale.fault(), 0);
        return sale;
    }

    private static void dueFault(Checks checks, String text, int place, int kind) {
        CouponSale sale = new CouponSale();
        checks.due("rules of '" + text + "'", Checks.rules(sale, text), -1 - place);
        checks.due("fault of '" + text + "'", sale.fault(), kind);
    }

    private static String filled(String text, int length) {
        return text + " ".repeat(length - text.length());
    }
}

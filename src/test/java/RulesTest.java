/** Promises 2 to 6: feed, end, rules, fault, rule; and what 5 of count (promise 19). */
public final class RulesTest {
    private static final Checks CHECKS = new Checks();

    public static void main(String[] args) {
        feedTakesUpTo140Bytes();
        feedPutsTheHighestByteFirst();
        endShortens();
        rulesToldAndUntold();
        rulesEmptyTheTape();
        rangesOfEachRule();
        blanksAndTokens();
        tokensThatCannotCome();
        numbersNotAsTold();
        rulesToldTwice();
        theFirstFaultAlongTheText();
        theEnd();
        longTexts();
        rulesStayWithAFault();
        ruleOfAnotherNumber();
        CHECKS.finish();
    }

    private static void feedTakesUpTo140Bytes() {
        CouponSale sale = new CouponSale();
        for (int n = 20; n <= 140; n += 20) {
            CHECKS.due("feed to " + n, sale.feed(0, 0, 0, 0, 0), n);
        }
        CHECKS.due("feed beyond 140", sale.feed(0, 0, 0, 0, 0), -1);
        CHECKS.due("tape after a refused feed", sale.count(5), 140);
        sale.end(121);
        CHECKS.due("feed to 141", sale.feed(0, 0, 0, 0, 0), -1);
        CHECKS.due("tape stays", sale.count(5), 121);
        sale.end(120);
        CHECKS.due("feed to just 140", sale.feed(0, 0, 0, 0, 0), 140);
    }

    private static void feedPutsTheHighestByteFirst() {
        CouponSale sale = new CouponSale();
        // "work" "ers " "1;ha" "lf 2" ";cut" then " 3; "
        sale.feed(0x776F726B, 0x65727320, 0x313B6861, 0x6C662032, 0x3B637574);
        CHECKS.due("second feed", sale.feed(0x20333B20, 0x20202020, 0x20202020, 0x20202020, 0x0A0A0A0A), 40);
        CHECKS.due("rules over five numbers", sale.rules(), 3);
        CHECKS.due("workers", sale.rule(0), 1);
        CHECKS.due("half", sale.rule(1), 2);
        CHECKS.due("cut", sale.rule(2), 3);
    }

    private static void endShortens() {
        CouponSale sale = new CouponSale();
        CHECKS.due("end(0) of an empty tape", sale.end(0) ? 1 : 0, 1);
        CHECKS.due("end(1) of an empty tape", sale.end(1) ? 1 : 0, 0);
        sale.feed(0, 0, 0, 0, 0);
        CHECKS.due("end(-1)", sale.end(-1) ? 1 : 0, 0);
        CHECKS.due("end(least)", sale.end(Integer.MIN_VALUE) ? 1 : 0, 0);
        CHECKS.due("end(21)", sale.end(21) ? 1 : 0, 0);
        CHECKS.due("tape stays with false", sale.count(5), 20);
        CHECKS.due("end(20)", sale.end(20) ? 1 : 0, 1);
        CHECKS.due("end(7)", sale.end(7) ? 1 : 0, 1);
        CHECKS.due("tape has 7", sale.count(5), 7);
        CHECKS.due("end(8) of 7", sale.end(8) ? 1 : 0, 0);
        CHECKS.due("feed behind 7", sale.feed(0, 0, 0, 0, 0), 27);
    }

    private static void rulesToldAndUntold() {
        CouponSale sale = new CouponSale();
        CHECKS.due("fault ahead of any", sale.fault(), 0);
        dueRules("at first", sale, 10, 50, 25, 200, 50, 1);
        CHECKS.due("all six", Checks.rules(sale, "least 7;fall 8;rise 109;cut 9;half 11;workers 12;"), 6);
        dueRules("all six", sale, 12, 11, 9, 109, 8, 7);
        CHECKS.due("one alone", Checks.rules(sale, "cut 0;"), 1);
        dueRules("the others as without a text", sale, 10, 50, 0, 200, 50, 1);
        CHECKS.due("an empty text", sale.rules(), 0);
        dueRules("an empty text", sale, 10, 50, 25, 200, 50, 1);
    }

    private static void rulesEmptyTheTape() {
        CouponSale sale = new CouponSale();
        Checks.rules(sale, "cut 1;");
        CHECKS.due("tape after rules", sale.count(5), 0);
        Checks.rules(sale, "cut");
        CHECKS.due("tape after a fault", sale.count(5), 0);
        CHECKS.due("fault stays till the next rules", sale.fault(), 1);
        sale.feed(0, 0, 0, 0, 0);
        CHECKS.due("fault after feed", sale.fault(), 1);
        sale.end(0);
        sale.rules();
        CHECKS.due("fault of the latest rules", sale.fault(), 0);
    }

    private static void rangesOfEachRule() {
        String[] words = {"workers", "half", "cut", "rise", "fall", "least"};
        int[] low = {0, 1, 0, 100, 1, 1};
        int[] high = {50, 100, 300, 999, 100, 9999};
        for (int k = 0; k < words.length; k++) {
            CouponSale sale = new CouponSale();
            CHECKS.due(words[k] + " lowest", Checks.rules(sale, words[k] + " " + low[k] + ";"), 1);
            CHECKS.due(words[k] + " lowest is", sale.rule(k), low[k]);
            CHECKS.due(words[k] + " highest", Checks.rules(sale, words[k] + " " + high[k] + ";"), 1);
            CHECKS.due(words[k] + " highest is", sale.rule(k), high[k]);
            int place = words[k].length() + 1;
            if (low[k] > 0) {
                dueFault(words[k] + " " + (low[k] - 1) + ";", place, 2);
            }
            dueFault(words[k] + " " + (high[k] + 1) + ";", place, high[k] == 9999 ? 1 : 2);
        }
    }

    private static void blanksAndTokens() {
        CouponSale sale = new CouponSale();
        CHECKS.due("blanks", Checks.rules(sale, " \n cut \n\n 7 ; \n"), 1);
        CHECKS.due("cut between blanks", sale.rule(2), 7);
        CHECKS.due("blanks alone", Checks.rules(sale, " \n "), 0);
        CHECKS.due("four digits with noughts ahead", Checks.rules(sale, "cut 0007;half 01;"), 2);
        CHECKS.due("cut 0007", sale.rule(2), 7);
        dueFault("cut7;", 0, 1);
        dueFault("cut 7x;", 4, 1);
        dueFault("cut x7;", 4, 1);
        dueFault("cut 00007;", 4, 1);
        dueFault("cut 12345", 4, 1);
        dueFault("cut\t7;", 3, 1);
        dueFault("cut\r7;", 3, 1);
        dueFault("\0", 0, 1);
        dueFault("cut 7;" + (char) 233, 6, 1);
        dueFault("Cut 7;", 0, 1);
        dueFault("cuT 7;", 0, 1);
        dueFault("cutT 7;", 3, 1);
        dueFault("cut -7;", 4, 1);
        dueFault("cut 7:", 5, 1);
        dueFault("cut 7`;", 5, 1);
        dueFault("cut 7{", 5, 1);
        dueFault("cut 7/", 5, 1);
    }

    private static void tokensThatCannotCome() {
        dueFault(";", 0, 1);
        dueFault("7;", 0, 1);
        dueFault("cut 7;;", 6, 1);
        dueFault("cut;", 3, 1);
        dueFault("cut cut 7;", 4, 1);
        dueFault("cut half 7;", 4, 1);
        dueFault("cut 7 7;", 6, 1);
        dueFault("cut 7 half 7;", 6, 1);
        dueFault("cu 7;", 0, 1);
        dueFault("cutt 7;", 0, 1);
        dueFault("cutz 7;", 0, 1);
        dueFault("acut 7;", 0, 1);
        dueFault("but 7;", 0, 1);
        dueFault("cuz 7;", 0, 1);
        dueFault("least 5;worker 7;", 8, 1);
    }

    private static void numbersNotAsTold() {
        dueFault("  half   0", 9, 2);
        dueFault("workers 51 52", 8, 2);
        dueFault("rise 99#", 5, 2);
        dueFault("rise 0000;", 5, 2);
    }

    private static void rulesToldTwice() {
        dueFault("cut 7;cut 7;", 6, 3);
        dueFault("cut 7;half 7;cut 8;", 13, 3);
        dueFault("cut 7;cut", 6, 3);
        dueFault("cut 7;cut 999;", 6, 3);
        dueFault("cut 7 cut", 6, 1);
    }

    private static void theFirstFaultAlongTheText() {
        dueFault("cut 999;cut 7;", 4, 2);
        dueFault("cut 7;half 0;cut 7;", 11, 2);
        dueFault("cut 7;half 1;half 0;#", 13, 3);
        dueFault("cut 7;# half 0;", 6, 1);
    }

    private static void theEnd() {
        dueFault("c", 0, 1);
        dueFault("cut", 3, 1);
        dueFault("cut ", 4, 1);
        dueFault("cut 7", 5, 1);
        dueFault("cut 7 \n ", 8, 1);
        dueFault("cut 7;half 5", 12, 1);
        dueFault(filled("cut 7", 120), 120, 1);
    }

    private static void longTexts() {
        CouponSale sale = new CouponSale();
        CHECKS.due("120 bytes", Checks.rules(sale, filled("cut 7;", 120)), 1);
        dueFault(filled("cut 7;", 121), 120, 1);
        dueFault(filled("cut 7;", 140), 120, 1);
        dueFault(filled("", 121), 120, 1);
        dueFault(filled("", 117) + "cut 7;", 120, 1);
        dueFault(filled("", 118) + "cut 7;", 120, 1);
        dueFault(filled("", 118) + "cux 7;", 118, 1);
        dueFault(filled("", 118) + "cut7", 118, 1);
        dueFault(filled("cut", 118) + "12345", 118, 1);
        dueFault(filled("cut", 119) + "301;", 119, 2);
        dueFault(filled("cut", 119) + "300;", 120, 1);
        dueFault(filled("cut", 120) + "301;", 120, 1);
        dueFault(filled("cut 7;", 119) + "cut 7;", 119, 3);
        dueFault(filled("cut 7;", 120) + "cut 7;", 120, 1);
        dueFault(filled("cut 7;", 119) + "##", 119, 1);
        dueFault(filled("cut 999;", 140), 4, 2);
    }

    private static void rulesStayWithAFault() {
        CouponSale sale = new CouponSale();
        Checks.rules(sale, "workers 1;half 2;cut 3;rise 104;fall 5;least 6;");
        CHECKS.due("a fault behind good rules", Checks.rules(sale, "workers 9;half 9;cut 9;rise"), -28);
        dueRules("those ahead stay", sale, 1, 2, 3, 104, 5, 6);
        CHECKS.due("a text behind a fault", Checks.rules(sale, "workers 9;"), 1);
        dueRules("nothing stays of the faulty one", sale, 9, 50, 25, 200, 50, 1);
    }

    private static void ruleOfAnotherNumber() {
        CouponSale sale = new CouponSale();
        int[] others = {-1, 6, 7, 100, Integer.MIN_VALUE, Integer.MAX_VALUE};
        for (int k : others) {
            CHECKS.due("rule " + k, sale.rule(k), -1);
        }
    }

    private static void dueFault(String text, int place, int kind) {
        CouponSale sale = new CouponSale();
        Checks.tape(sale, text);
        CHECKS.due("tape of '" + text + "'", sale.count(5), text.length());
        CHECKS.due("rules of '" + text + "'", sale.rules(), -1 - place);
        CHECKS.due("fault of '" + text + "'", sale.fault(), kind);
        dueRules("'" + text + "'", sale, 10, 50, 25, 200, 50, 1);
    }

    private static void dueRules(String what, CouponSale sale, int... want) {
        for (int k = 0; k < want.length; k++) {
            CHECKS.due(what + ": rule " + k, sale.rule(k), want[k]);
        }
    }

    private static String filled(String text, int length) {
        StringBuilder all = new StringBuilder(text);
        while (all.length() < length) {
            all.append(' ');
        }
        return all.toString();
    }
}

import java.nio.charset.StandardCharsets;
import java.util.NoSuchElementException;
import java.util.Random;

/** All promises: runs of up to 512 calls with seeded numbers, against the model of the document. */
public final class RandomRunsTest {
    private static final int RUNS = 4000;
    private static final int CALLS_OF_AN_OBJECT = 512;
    /** feed for some 220 bytes (those beyond 140 are refused), end, rules, fault, rule six times. */
    private static final int MOST_CALLS_OF_A_TEXT = 24;
    private static final long THROWN = Long.MIN_VALUE + 7;
    private static final int[] WILD = {Integer.MIN_VALUE, Integer.MAX_VALUE, -1, -2, 0, 1, 23, 24, 27, 28, 50, 1000, 1001};
    private static final String[] PIECES = {"workers", "half", "cut", "rise", "fall", "least", ";", ";", "0", "1", "7",
        "50", "51", "100", "101", "300", "301", "999", "1000", "9999", "12345", "0007", " ", "\n", "cuts", "c", "#", "A",
        "\t", "\u00e9", "\0"};

    private final Random random;
    private final CouponSale sale = new CouponSale();
    private final ModelSale model = new ModelSale();
    private int calls;
    private String last;

    private RandomRunsTest(long seed) {
        random = new Random(seed);
    }

    public static void main(String[] args) {
        int wrong = 0;
        for (int run = 0; run < RUNS && wrong < 10; run++) {
            wrong += new RandomRunsTest(run).run(run) ? 0 : 1;
        }
        System.out.println(RUNS + " runs, " + wrong + " wrong");
        if (wrong != 0) {
            System.exit(1);
        }
    }

    private boolean run(int run) {
        // Not by chance: the first numbers of near seeds are much alike.
        boolean fewRounds = run % 2 == 0;
        while (calls + MOST_CALLS_OF_A_TEXT <= CALLS_OF_AN_OBJECT) {
            long difference = calls < 100 ? make() : play(fewRounds ? 80 : 5);
            if (difference != 0) {
                System.out.println("run " + run + ", call " + calls + ": " + last);
                return false;
            }
        }
        return true;
    }

    private long make() {
        switch (random.nextInt(8)) {
            case 0:
            case 1:
                return work();
            case 2:
            case 3:
            case 4:
                return person();
            case 5:
                return fund();
            case 6:
                return give();
            default:
                return text();
        }
    }

    private long play(int callsARound) {
        if (random.nextInt(callsARound) == 0) {
            return same("close", sale.close(), model.close());
        }
        switch (random.nextInt(12)) {
            case 0:
                return random.nextInt(4) == 0 ? make() : text();
            case 1:
                return give();
            case 2:
            case 3:
            case 4:
            case 5:
                return bid();
            case 6:
                return purse();
            case 7:
            case 8:
                return owned();
            default:
                return tell();
        }
    }

    private long work() {
        int shares = pick(1 + random.nextInt(random.nextBoolean() ? 20 : 1000));
        int price = pick(1 + random.nextInt(random.nextInt(9) == 0 ? 9999 : 30));
        return same("work " + shares + " " + price, sale.work(shares, price), model.work(shares, price));
    }

    private long person() {
        int worker = pick(random.nextInt(11) - 1);
        return same("person " + worker, sale.person(worker), model.person(worker));
    }

    private long fund() {
        int promise = pick(random.nextInt(random.nextBoolean() ? 501 : 130));
        return same("fund " + promise, sale.fund(promise), model.fund(promise));
    }

    private long give() {
        int person = person0();
        int fund = pick(24 + random.nextInt(4));
        int points = pick(1 + random.nextInt(600));
        return same("give " + person + " " + fund + " " + points, sale.give(person, fund, points),
            model.give(person, fund, points));
    }

    private long bid() {
        int bidder = bidder();
        int w = pick(random.nextInt(Math.max(1, model.count(1))));
        int shares = pick(random.nextInt(random.nextInt(4) == 0 ? 1001 : 1 + Math.max(1, model.about(w, 1))));
        return same("bid " + bidder + " " + w + " " + shares, sale.bid(bidder, w, shares), model.bid(bidder, w, shares));
    }

    private long purse() {
        int bidder = bidder();
        int what = pick(random.nextInt(5));
        long got;
        long want;
        try {
            got = sale.purse(bidder, what);
        } catch (NoSuchElementException e) {
            got = THROWN;
        }
        try {
            want = model.purse(bidder, what);
        } catch (NoSuchElementException e) {
            want = THROWN;
        }
        return same("purse " + bidder + " " + what, got, want);
    }

    private long owned() {
        int person = person0();
        int w = pick(random.nextInt(10));
        int round = pick(random.nextInt(model.count(0) + 1));
        int what = pick(random.nextInt(2));
        long got;
        long want;
        try {
            got = sale.owned(person, w, round, what);
        } catch (NoSuchElementException e) {
            got = THROWN;
        }
        try {
            want = model.owned(person, w, round, what);
        } catch (NoSuchElementException e) {
            want = THROWN;
        }
        return same("owned " + person + " " + w + " " + round + " " + what, got, want);
    }

    private long tell() {
        int bidder = bidder();
        int w = pick(random.nextInt(10));
        int round = pick(random.nextInt(model.count(0) + 2));
        int what = pick(random.nextInt(7));
        switch (random.nextInt(6)) {
            case 0:
                return same("about " + w + " " + what, sale.about(w, what), model.about(w, what));
            case 1:
                return same("price " + w + " " + round, sale.price(w, round), model.price(w, round));
            case 2:
                return same("holds " + bidder + " " + w + " " + round, sale.holds(bidder, w, round),
                    model.holds(bidder, w, round));
            case 3:
                return same("asks " + bidder + " " + w, sale.asks(bidder, w), model.asks(bidder, w));
            case 4:
                return same("rule " + what, sale.rule(what), model.rule(what));
            default:
                return same("count " + what, sale.count(what), model.count(what));
        }
    }

    private long text() {
        StringBuilder text = new StringBuilder(random.nextInt(4) == 0 ? blanks(random.nextInt(125)) : "");
        boolean good = random.nextInt(3) > 0;
        for (int n = random.nextInt(7); n > 0; n--) {
            text.append(good ? goodRule() : PIECES[random.nextInt(PIECES.length)]);
            text.append(random.nextInt(3) == 0 ? blanks(random.nextInt(3)) : "");
        }
        if (random.nextInt(3) == 0) {
            text.append(blanks(Math.max(0, 117 + random.nextInt(8) - text.length())));
            text.append(random.nextBoolean() ? PIECES[random.nextInt(PIECES.length)] : "");
        }
        byte[] bytes = text.toString().getBytes(StandardCharsets.ISO_8859_1);
        long difference = 0;
        for (int from = 0; from < bytes.length; from += 20) {
            int[] n = new int[5];
            for (int i = 0; i < 20; i++) {
                int b = from + i < bytes.length ? bytes[from + i] & 255 : random.nextInt(256);
                n[i / 4] |= b << 8 * (3 - i % 4);
            }
            difference |= same("feed", sale.feed(n[0], n[1], n[2], n[3], n[4]), model.feed(n));
        }
        int n = pick(bytes.length);
        difference |= same("end " + n, sale.end(n) ? 1 : 0, model.end(n) ? 1 : 0);
        if (random.nextInt(20) > 0) {
            difference |= same("rules '" + text + "' to " + n, sale.rules(), model.rules());
            difference |= same("fault '" + text + "'", sale.fault(), model.fault());
            for (int k = 0; k < 6; k++) {
                difference |= same("rule " + k + " of '" + text + "'", sale.rule(k), model.rule(k));
            }
        }
        return difference;
    }

    private String goodRule() {
        String[] rules = {"workers " + random.nextInt(51), "half" + " " + (1 + random.nextInt(100)),
            "cut " + random.nextInt(301), "rise\n" + (100 + random.nextInt(900)), "fall " + (1 + random.nextInt(100)),
            "least " + (1 + random.nextInt(random.nextInt(9) == 0 ? 9999 : 20))};
        return rules[random.nextInt(rules.length)] + ";";
    }

    private static String blanks(int n) {
        return " ".repeat(n);
    }

    private int bidder() {
        return random.nextInt(3) == 0 ? pick(24 + random.nextInt(4)) : person0();
    }

    private int person0() {
        return pick(random.nextInt(1 + Math.max(1, model.count(2))));
    }

    private int pick(int usual) {
        return random.nextInt(25) == 0 ? WILD[random.nextInt(WILD.length)] : usual;
    }

    private long same(String call, long got, long want) {
        calls++;
        if (got != want) {
            last = call + " answered " + got + ", the model " + want;
        }
        return got == want ? 0 : 1;
    }
}

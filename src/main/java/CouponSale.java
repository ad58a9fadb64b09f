import java.util.NoSuchElementException;

/**
 * A sale of works for books of points, in rounds. What each method promises stands in the document
 * (DOC.md), whose words in capitals are used here as they are there.
 */
public final class CouponSale {
    public static final int NONE = -1;

    private static final int MOST_WORKS = 10;
    private static final int MOST_PEOPLE = 24;
    private static final int MOST_FUNDS = 4;
    private static final int MOST_BIDDERS = MOST_PEOPLE + MOST_FUNDS;
    private static final int MOST_SHARES = 1000;
    private static final int MOST_PRICE = 9999;
    private static final int MOST_PROMISE = 500;
    private static final int POINTS_AT_FIRST = 1000;
    private static final int LAST_ROUND = 49;
    private static final int BYTES_A_FEED = 20;

    private final Tape tape = new Tape();
    private final RuleText ruleText = new RuleText();
    private final Work[] works = new Work[MOST_WORKS];
    private final Person[] people = new Person[MOST_PEOPLE];
    private final Fund[] funds = new Fund[MOST_FUNDS];
    private final Allotment allotment = new Allotment();
    private int workCount;
    private int peopleCount;
    private int fundCount;
    private int roundNow;
    private int soldInAll;

    public CouponSale() {
    }

    // ---- the tape and the RULES

    public int feed(int a, int b, int c, int d, int e) {
        if (!tape.hasRoomFor(BYTES_A_FEED)) {
            return NONE;
        }
        tape.append(a);
        tape.append(b);
        tape.append(c);
        tape.append(d);
        tape.append(e);
        return tape.length;
    }

    public boolean end(int n) {
        return tape.shortenTo(n);
    }

    public int rules() {
        int answer = ruleText.read(tape);
        tape.shortenTo(0);
        return answer;
    }

    public int fault() {
        return ruleText.faultKind;
    }

    public int rule(int k) {
        return k >= 0 && k < ruleText.values.length ? ruleText.values[k] : NONE;
    }

    // ---- who and what takes part

    public int work(int shares, int price) {
        if (workCount >= works.length || !isWithin(shares, 1, MOST_SHARES) || !isWithin(price, 1, MOST_PRICE)) {
            return NONE;
        }
        works[workCount] = new Work(shares, price, roundNow);
        workCount++;
        return workCount - 1;
    }

    public int person(int worker) {
        if (peopleCount >= people.length || (worker != NONE && workAt(worker) == null)) {
            return NONE;
        }
        people[peopleCount] = new Person(worker);
        peopleCount++;
        return peopleCount - 1;
    }

    public int fund(int promise) {
        if (fundCount >= funds.length || !isWithin(promise, 0, MOST_PROMISE)) {
            return NONE;
        }
        funds[fundCount] = new Fund(promise);
        fundCount++;
        return MOST_PEOPLE + fundCount - 1;
    }

    // ---- what BIDDERS do

    public int give(int person, int fund, int points) {
        Person giver = personAt(person);
        Fund taker = fundAt(fund);
        if (giver == null || taker == null || roundNow != 0 || points < 1) {
            return NONE;
        }
        if (points > giver.points - costOfBids(person)) {
            return NONE;
        }
        giver.points -= points;
        taker.points += points;
        taker.given += points;
        taker.givenBy[person] += points;
        return taker.givenBy[person];
    }

    public int bid(int bidder, int work, int shares) {
        Bidder asker = bidderAt(bidder);
        Work wanted = workAt(work);
        if (asker == null || wanted == null || !isWithin(shares, 0, MOST_SHARES)) {
            return NONE;
        }
        int cost = costOfBids(bidder) + (shares - wanted.asked[bidder]) * wanted.priceNow;
        if (cost > asker.points) {
            return NONE;
        }
        wanted.asked[bidder] = shares;
        return cost;
    }

    public int close() {
        if (roundNow >= LAST_ROUND) {
            return NONE;
        }
        int sold = 0;
        for (int w = 0; w < workCount; w++) {
            sold += endRoundOf(w);
        }
        roundNow++;
        soldInAll += sold;
        return sold;
    }

    // ---- what is told

    public int about(int w, int what) {
        Work told = workAt(w);
        if (told == null) {
            return NONE;
        }
        switch (what) {
            case 0:
                return told.shares;
            case 1:
                return told.left;
            case 2:
                return told.priceNow;
            case 3:
                return sumOf(told.asked);
            default:
                return NONE;
        }
    }

    public int price(int w, int round) {
        Work told = workAt(w);
        if (told == null || !isWithin(round, told.madeIn, roundNow)) {
            return NONE;
        }
        return told.priceIn[round];
    }

    public int purse(int bidder, int what) throws NoSuchElementException {
        Bidder owner = bidderAt(bidder);
        if (owner == null || !isWithin(what, 0, 4)) {
            throw new NoSuchElementException();
        }
        Fund fund = fundAt(bidder);
        switch (what) {
            case 0:
                return owner.points;
            case 1:
                return costOfBids(bidder);
            case 2:
                return fund == null ? NONE : fund.given;
            case 3:
                return fund == null ? NONE : isKept(fund, bidder) ? 1 : 0;
            default:
                return sharesHeldBy(bidder);
        }
    }

    public int holds(int bidder, int w, int round) {
        Work told = workAt(w);
        if (bidderAt(bidder) == null || told == null || !isWithin(round, 0, roundNow)) {
            return NONE;
        }
        return told.heldAsOf(round, bidder);
    }

    public int asks(int bidder, int w) {
        Work told = workAt(w);
        if (bidderAt(bidder) == null || told == null) {
            return NONE;
        }
        return told.asked[bidder];
    }

    public long owned(int person, int w, int round, int what) throws NoSuchElementException {
        Work told = workAt(w);
        if (personAt(person) == null || told == null || !isWithin(round, 0, roundNow) || !isWithin(what, 0, 1)) {
            throw new NoSuchElementException();
        }
        Fraction part = partOwned(person, told, round);
        return what == 0 ? part.upper : part.lower;
    }

    public int count(int what) {
        switch (what) {
            case 0:
                return roundNow;
            case 1:
                return workCount;
            case 2:
                return peopleCount;
            case 3:
                return fundCount;
            case 4:
                return soldInAll;
            case 5:
                return tape.length;
            default:
                return NONE;
        }
    }

    // ---- finding by number: null where there is no such one

    private Work workAt(int w) {
        return w >= 0 && w < workCount && w < works.length ? works[w] : null;
    }

    private Person personAt(int bidder) {
        return bidder >= 0 && bidder < peopleCount && bidder < people.length ? people[bidder] : null;
    }

    private Fund fundAt(int bidder) {
        if (!isWithin(bidder, MOST_PEOPLE, MOST_BIDDERS - 1)) {
            return null;
        }
        int f = bidder - MOST_PEOPLE;
        return f < fundCount && f < funds.length ? funds[f] : null;
    }

    private Bidder bidderAt(int bidder) {
        Person person = personAt(bidder);
        if (person != null) {
            return person;
        }
        return fundAt(bidder);
    }

    // ---- sums over all WORKS, for a BIDDER that there is

    private int costOfBids(int bidder) {
        int cost = 0;
        for (int w = 0; w < workCount; w++) {
            Work work = workAt(w);
            cost += work == null ? 0 : work.asked[bidder] * work.priceNow;
        }
        return cost;
    }

    private int sharesHeldBy(int bidder) {
        int shares = 0;
        for (int w = 0; w < workCount; w++) {
            Work work = workAt(w);
            shares += work == null ? 0 : work.held[bidder];
        }
        return shares;
    }

    private int worthHeldBy(int bidder) {
        int worth = 0;
        for (int w = 0; w < workCount; w++) {
            Work work = workAt(w);
            worth += work == null ? 0 : work.held[bidder] * work.priceNow;
        }
        return worth;
    }

    private boolean isKept(Fund fund, int bidder) {
        // A hundred times the worth of ten whole WORKS is beyond an int.
        long hundredths = 100L * (worthHeldBy(bidder) + fund.points);
        return hundredths >= (long) fund.promised * fund.given;
    }

    /** At most 24000 POINTS are GIVEN in all, so four FUNDS' lower ones times SHARES stay far within a long. */
    private Fraction partOwned(int person, Work work, int round) {
        Fraction part = new Fraction(work.heldAsOf(round, person));
        for (int f = 0; f < fundCount; f++) {
            int bidder = MOST_PEOPLE + f;
            Fund fund = fundAt(bidder);
            if (fund != null && fund.given > 0) {
                part.add((long) work.heldAsOf(round, bidder) * fund.givenBy[person], fund.given);
            }
        }
        part.divideBy(work.shares);
        return part;
    }

    // ---- how a ROUND ends for one WORK

    private int endRoundOf(int w) {
        Work work = workAt(w);
        if (work == null) {
            return 0;
        }
        int leftAhead = work.left;
        if (leftAhead > 0) {
            if (roundNow == 0) {
                sellToWorkers(work, w);
            }
            sellToAll(work);
        }
        work.keepFor(roundNow + 1);
        return leftAhead - work.left;
    }

    private void sellToWorkers(Work work, int w) {
        for (int bidder = 0; bidder < MOST_BIDDERS; bidder++) {
            Person person = personAt(bidder);
            allotment.wanted[bidder] = person != null && person.workerOf == w ? work.asked[bidder] : 0;
        }
        int reserve = work.shares * ruleText.valueOf(Rule.WORKERS) / 100;
        allotment.cutBackTo(Math.min(reserve, work.left));
        handOver(work, dividedUp(work.priceNow * ruleText.valueOf(Rule.HALF), 100));
    }

    private void sellToAll(Work work) {
        int left = work.left;
        int asked = sumOf(work.asked);
        System.arraycopy(work.asked, 0, allotment.wanted, 0, MOST_BIDDERS);
        boolean tooMuch = asked - left > left * ruleText.valueOf(Rule.CUT) / 100;
        allotment.cutBackTo(tooMuch ? 0 : left);
        handOver(work, work.priceNow);
        if (left > 0) {
            work.priceNow = movedPrice(work.priceNow, asked, left);
        }
    }

    private void handOver(Work work, int pointsAShare) {
        for (int bidder = 0; bidder < MOST_BIDDERS; bidder++) {
            Bidder buyer = bidderAt(bidder);
            if (buyer != null) {
                int won = allotment.won[bidder];
                buyer.points -= won * pointsAShare;
                work.held[bidder] += won;
                work.asked[bidder] -= won;
                work.left -= won;
            }
        }
    }

    private int movedPrice(int price, int asked, int left) {
        int moved = dividedUp(price * asked, left);
        moved = Math.min(moved, price * ruleText.valueOf(Rule.RISE) / 100);
        moved = Math.max(moved, dividedUp(price * ruleText.valueOf(Rule.FALL), 100));
        moved = Math.max(moved, ruleText.valueOf(Rule.LEAST));
        return Math.min(moved, MOST_PRICE);
    }

    // ---- numbers

    private static boolean isWithin(int number, int least, int most) {
        return number >= least && number <= most;
    }

    private static int sumOf(int[] numbers) {
        int sum = 0;
        for (int number : numbers) {
            sum += number;
        }
        return sum;
    }

    private static int dividedUp(int number, int by) {
        return by > 0 ? (number + by - 1) / by : 0;
    }

    /** The RULES in the order of their numbers, as a text tells them. */
    private enum Rule {
        WORKERS(0, "workers", 0, 50, 10),
        HALF(1, "half", 1, 100, 50),
        CUT(2, "cut", 0, 300, 25),
        RISE(3, "rise", 100, 999, 200),
        FALL(4, "fall", 1, 100, 50),
        LEAST(5, "least", 1, 9999, 1);

        private static final Rule[] ALL = values();

        private final int number;
        private final String word;
        private final int low;
        private final int high;
        private final int untold;

        Rule(int number, String word, int low, int high, int untold) {
            this.number = number;
            this.word = word;
            this.low = low;
            this.high = high;
            this.untold = untold;
        }
    }

    /** The bytes that are fed. */
    private static final class Tape {
        private static final int ROOM = 140;

        private final byte[] bytes = new byte[ROOM];
        private int length;

        boolean hasRoomFor(int more) {
            return more <= ROOM - length;
        }

        void append(int number) {
            for (int shift = 24; shift >= 0 && length < ROOM; shift -= 8) {
                bytes[length] = (byte) (number >>> shift);
                length++;
            }
        }

        boolean shortenTo(int n) {
            if (!isWithin(n, 0, length)) {
                return false;
            }
            length = n;
            return true;
        }

        /** NONE behind the end, so that no byte there goes on a TOKEN. */
        int at(int place) {
            return place >= 0 && place < length && place < ROOM ? bytes[place] & 255 : NONE;
        }
    }

    /** The RULES in force, and the reader of a text of new ones. */
    private static final class RuleText {
        private static final int LONGEST = 120;
        private static final int MOST_DIGITS = 4;

        private static final int NO_TOKEN = 0;
        private static final int WORD = 1;
        private static final int NUMBER = 2;
        private static final int SEMICOLON = 3;

        private static final int CANNOT_COME = 1;
        private static final int NOT_AS_TOLD = 2;
        private static final int TOLD_TWICE = 3;

        private final int[] values = new int[Rule.ALL.length];
        private final int[] told = new int[Rule.ALL.length];
        private int toldCount;
        private int awaited;
        private Rule open;
        private int faultKind;
        private int faultPlace;

        RuleText() {
            for (Rule rule : Rule.ALL) {
                values[rule.number] = rule.untold;
            }
        }

        int valueOf(Rule rule) {
            return values[rule.number];
        }

        /** How many RULES the text told; -1 less the place of its FAULT, and then those in force stay. */
        int read(Tape text) {
            begin();
            int stop = Math.min(text.length, LONGEST);
            for (int place = 0; place < stop && faultKind == 0; place = Math.max(place + 1, tokenEnd(text, place))) {
                if (!isBlank(text.at(place))) {
                    takeToken(text, place, tokenEnd(text, place));
                }
            }
            if (faultKind == 0 && (awaited != WORD || text.length > LONGEST)) {
                setFault(CANNOT_COME, stop);
            }
            if (faultKind != 0) {
                return -1 - faultPlace;
            }
            putInForce();
            return toldCount;
        }

        private void begin() {
            for (int k = 0; k < told.length; k++) {
                told[k] = NONE;
            }
            toldCount = 0;
            awaited = WORD;
            open = null;
            faultKind = 0;
            faultPlace = 0;
        }

        private void putInForce() {
            for (Rule rule : Rule.ALL) {
                values[rule.number] = told[rule.number] == NONE ? rule.untold : told[rule.number];
            }
        }

        private void setFault(int kind, int place) {
            faultKind = kind;
            faultPlace = place;
        }

        private void takeToken(Tape text, int from, int to) {
            int kind = tokenKind(text, from, to);
            if (kind != awaited) {
                setFault(CANNOT_COME, from);
            } else if (kind == WORD) {
                takeWord(text, from, to);
            } else if (kind == NUMBER) {
                takeNumber(text, from, to);
            } else {
                awaited = WORD;
            }
        }

        private void takeWord(Tape text, int from, int to) {
            open = ruleOf(text, from, to);
            if (open == null) {
                setFault(CANNOT_COME, from);
            } else if (told[open.number] != NONE) {
                setFault(TOLD_TWICE, from);
            } else {
                awaited = NUMBER;
            }
        }

        private void takeNumber(Tape text, int from, int to) {
            int number = 0;
            for (int place = from; place < to; place++) {
                number = number * 10 + text.at(place) - '0';
            }
            if (open == null || !isWithin(number, open.low, open.high)) {
                setFault(NOT_AS_TOLD, from);
            } else {
                told[open.number] = number;
                toldCount++;
                awaited = SEMICOLON;
            }
        }

        private static int tokenEnd(Tape text, int from) {
            int place = from;
            while (place < text.length && isOfWordOrNumber(text.at(place))) {
                place++;
            }
            return Math.max(place, from + 1);
        }

        private static int tokenKind(Tape text, int from, int to) {
            int letters = 0;
            int digits = 0;
            for (int place = from; place < to; place++) {
                letters += isLetter(text.at(place)) ? 1 : 0;
                digits += isDigit(text.at(place)) ? 1 : 0;
            }
            if (letters == to - from) {
                return WORD;
            }
            if (digits == to - from && digits <= MOST_DIGITS) {
                return NUMBER;
            }
            return text.at(from) == ';' ? SEMICOLON : NO_TOKEN;
        }

        private static Rule ruleOf(Tape text, int from, int to) {
            for (Rule rule : Rule.ALL) {
                if (spells(text, from, to, rule.word)) {
                    return rule;
                }
            }
            return null;
        }

        private static boolean spells(Tape text, int from, int to, String word) {
            if (word.length() != to - from) {
                return false;
            }
            for (int i = 0; i < word.length(); i++) {
                if (text.at(from + i) != word.charAt(i)) {
                    return false;
                }
            }
            return true;
        }

        private static boolean isBlank(int sign) {
            return sign == 32 || sign == 10;
        }

        private static boolean isLetter(int sign) {
            return sign >= 'a' && sign <= 'z';
        }

        private static boolean isDigit(int sign) {
            return sign >= '0' && sign <= '9';
        }

        private static boolean isOfWordOrNumber(int sign) {
            return isLetter(sign) || isDigit(sign);
        }
    }

    /** A WORK, with what each BIDDER asks and holds of it, and what was so as of each ROUND. */
    private static final class Work {
        private final int shares;
        private final int madeIn;
        private int left;
        private int priceNow;
        private final int[] asked = new int[MOST_BIDDERS];
        private final int[] held = new int[MOST_BIDDERS];
        private final int[] priceIn = new int[LAST_ROUND + 1];
        /** A row of BIDDERS for each ROUND; ROUNDS ahead of the WORK stay rows of 0, as nobody held any. */
        private final int[] heldRows = new int[(LAST_ROUND + 1) * MOST_BIDDERS];

        Work(int shares, int price, int round) {
            this.shares = shares;
            this.left = shares;
            this.priceNow = price;
            this.madeIn = round;
            if (isWithin(round, 0, LAST_ROUND)) {
                priceIn[round] = price;
            }
        }

        int heldAsOf(int round, int bidder) {
            if (!isWithin(round, 0, LAST_ROUND) || !isWithin(bidder, 0, MOST_BIDDERS - 1)) {
                return 0;
            }
            return heldRows[round * MOST_BIDDERS + bidder];
        }

        /** All BIDS go; what is held and the PRICE are kept as those of the ROUND that begins. */
        void keepFor(int round) {
            if (!isWithin(round, 0, LAST_ROUND)) {
                return;
            }
            for (int bidder = 0; bidder < MOST_BIDDERS; bidder++) {
                asked[bidder] = 0;
                heldRows[round * MOST_BIDDERS + bidder] = held[bidder];
            }
            priceIn[round] = priceNow;
        }
    }

    /** Whoever has POINTS and may bid. */
    private abstract static class Bidder {
        int points;
    }

    private static final class Person extends Bidder {
        private final int workerOf;

        Person(int workerOf) {
            this.workerOf = workerOf;
            this.points = POINTS_AT_FIRST;
        }
    }

    private static final class Fund extends Bidder {
        private final int promised;
        private final int[] givenBy = new int[MOST_PEOPLE];
        private int given;

        Fund(int promised) {
            this.promised = promised;
        }
    }

    /** What each BIDDER wants of some SHARES, and has of them; its rows are used again for every sale. */
    private static final class Allotment {
        private final int[] wanted = new int[MOST_BIDDERS];
        private final int[] won = new int[MOST_BIDDERS];
        private final int[] rests = new int[MOST_BIDDERS];

        /** With no more wanted than n, all have what they want: the parts are whole then, without rests. */
        void cutBackTo(int n) {
            int all = sumOf(wanted);
            int most = Math.min(n, all);
            int out = 0;
            for (int bidder = 0; bidder < MOST_BIDDERS; bidder++) {
                int product = wanted[bidder] * most;
                won[bidder] = all > 0 ? product / all : 0;
                rests[bidder] = all > 0 ? product % all : 0;
                out += won[bidder];
            }
            for (int given = out; given < most; given++) {
                giveOneToGreatestRest();
            }
        }

        private void giveOneToGreatestRest() {
            int best = 0;
            for (int bidder = 1; bidder < MOST_BIDDERS; bidder++) {
                if (rests[bidder] > rests[best]) {
                    best = bidder;
                }
            }
            won[best]++;
            rests[best] = NONE;
        }
    }

    /** A fraction without a divisor in common; lower is 1 or more. */
    private static final class Fraction {
        /** Euclid's steps for two longs are fewer than this. */
        private static final int MOST_STEPS = 100;

        private long upper;
        private long lower = 1;

        Fraction(long whole) {
            this.upper = whole;
        }

        void add(long otherUpper, long otherLower) {
            upper = upper * otherLower + otherUpper * lower;
            lower = lower * otherLower;
            shorten();
        }

        void divideBy(long number) {
            lower = lower * number;
            shorten();
        }

        private void shorten() {
            long divisor = divisorInCommon(upper, lower);
            if (divisor > 1) {
                upper = upper / divisor;
                lower = lower / divisor;
            }
        }

        private static long divisorInCommon(long one, long other) {
            long greater = one;
            long lesser = other;
            for (int step = 0; step < MOST_STEPS && lesser != 0; step++) {
                long rest = greater % lesser;
                greater = lesser;
                lesser = rest;
            }
            return greater;
        }
    }
}

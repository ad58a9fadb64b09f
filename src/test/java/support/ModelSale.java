import java.math.BigInteger;
import java.nio.charset.StandardCharsets;
import java.util.ArrayList;
import java.util.Comparator;
import java.util.HashMap;
import java.util.List;
import java.util.Map;
import java.util.NoSuchElementException;
import java.util.TreeMap;
import java.util.regex.Matcher;
import java.util.regex.Pattern;

/**
 * The document once more, written apart from the class with lists, maps and big numbers: random runs
 * compare the two. Where it can it goes another way (a list of all sales instead of rows of holdings).
 */
final class ModelSale {
    private static final List<String> WORDS = List.of("workers", "half", "cut", "rise", "fall", "least");
    private static final int[] LOW = {0, 1, 0, 100, 1, 1};
    private static final int[] HIGH = {50, 100, 300, 999, 100, 9999};
    private static final int[] UNTOLD = {10, 50, 25, 200, 50, 1};
    private static final Pattern TOKEN = Pattern.compile("[a-z0-9]+|[^ \n]", Pattern.DOTALL);

    private record Sold(int round, int bidder, int work, int shares) { }

    private record Gift(int person, int fund, int points) { }

    private static final class WorkState {
        int shares;
        int price;
        final Map<Integer, Integer> prices = new HashMap<>();
        final TreeMap<Integer, Integer> bids = new TreeMap<>();
    }

    private String tape = "";
    private int[] rules = UNTOLD.clone();
    private int fault;
    private int round;
    private final List<WorkState> works = new ArrayList<>();
    private final List<Integer> workers = new ArrayList<>();
    private final List<Integer> promises = new ArrayList<>();
    private final Map<Integer, Integer> points = new HashMap<>();
    private final List<Sold> sales = new ArrayList<>();
    private final List<Gift> gifts = new ArrayList<>();

    int feed(int... numbers) {
        if (tape.length() > 120) {
            return -1;
        }
        byte[] bytes = new byte[20];
        for (int i = 0; i < 20; i++) {
            bytes[i] = BigInteger.valueOf(numbers[i / 4]).shiftRight(8 * (3 - i % 4)).byteValue();
        }
        tape += new String(bytes, StandardCharsets.ISO_8859_1);
        return tape.length();
    }

    /** What feed and end make of a text. */
    void tape(String text) {
        tape = text;
    }

    boolean end(int n) {
        if (n < 0 || n > tape.length()) {
            return false;
        }
        tape = tape.substring(0, n);
        return true;
    }

    int rules() {
        String text = tape;
        tape = "";
        int[] told = UNTOLD.clone();
        List<String> seen = new ArrayList<>();
        Matcher matcher = TOKEN.matcher(text);
        int step = 0;
        fault = 0;
        while (matcher.find() && matcher.start() < 120) {
            String token = matcher.group();
            String form = List.of("[a-z]+", "[0-9]{1,4}", ";").get(step % 3);
            if (!token.matches(form) || step % 3 == 0 && !WORDS.contains(token)) {
                return faultAt(1, matcher.start());
            }
            if (step % 3 == 0) {
                if (seen.contains(token)) {
                    return faultAt(3, matcher.start());
                }
                seen.add(token);
            } else if (step % 3 == 1) {
                int k = WORDS.indexOf(seen.get(seen.size() - 1));
                int number = Integer.parseInt(token);
                if (number < LOW[k] || number > HIGH[k]) {
                    return faultAt(2, matcher.start());
                }
                told[k] = number;
            }
            step++;
        }
        if (text.length() > 120) {
            return faultAt(1, 120);
        }
        if (step % 3 != 0) {
            return faultAt(1, text.length());
        }
        rules = told;
        return seen.size();
    }

    private int faultAt(int kind, int place) {
        fault = kind;
        return -1 - place;
    }

    int fault() {
        return fault;
    }

    int rule(int k) {
        return k < 0 || k > 5 ? -1 : rules[k];
    }

    int work(int shares, int price) {
        if (works.size() == 10 || shares < 1 || shares > 1000 || price < 1 || price > 9999) {
            return -1;
        }
        WorkState work = new WorkState();
        work.shares = shares;
        work.price = price;
        work.prices.put(round, price);
        works.add(work);
        return works.size() - 1;
    }

    int person(int worker) {
        if (workers.size() == 24 || worker < -1 || worker >= works.size()) {
            return -1;
        }
        workers.add(worker);
        points.put(workers.size() - 1, 1000);
        return workers.size() - 1;
    }

    int fund(int promise) {
        if (promises.size() == 4 || promise < 0 || promise > 500) {
            return -1;
        }
        promises.add(promise);
        points.put(23 + promises.size(), 0);
        return 23 + promises.size();
    }

    int give(int person, int fund, int number) {
        boolean there = isPerson(person) && points.containsKey(fund) && fund >= 24;
        if (!there || round != 0 || number < 1 || number > points.get(person) - cost(person)) {
            return -1;
        }
        points.merge(person, -number, Integer::sum);
        points.merge(fund, number, Integer::sum);
        gifts.add(new Gift(person, fund, number));
        return gifts.stream().filter(g -> g.person == person && g.fund == fund).mapToInt(Gift::points).sum();
    }

    int bid(int bidder, int w, int shares) {
        if (!points.containsKey(bidder) || !isWork(w) || shares < 0 || shares > 1000) {
            return -1;
        }
        Integer ahead = works.get(w).bids.put(bidder, shares);
        if (cost(bidder) > points.get(bidder)) {
            works.get(w).bids.put(bidder, ahead == null ? 0 : ahead);
            return -1;
        }
        return cost(bidder);
    }

    int close() {
        if (round == 49) {
            return -1;
        }
        int ahead = soldInAll();
        for (int w = 0; w < works.size(); w++) {
            if (left(w) > 0) {
                sell(w);
            }
        }
        round++;
        for (WorkState work : works) {
            work.bids.clear();
            work.prices.put(round, work.price);
        }
        return soldInAll() - ahead;
    }

    private void sell(int w) {
        WorkState work = works.get(w);
        if (round == 0) {
            TreeMap<Integer, Integer> wish = new TreeMap<>(work.bids);
            wish.keySet().removeIf(b -> !isPerson(b) || workers.get(b) != w);
            int reserve = Math.min(left(w), (int) Math.floor(work.shares * rules[0] / 100.0 + 1e-9));
            int price = (int) Math.ceil(work.price * rules[1] / 100.0 - 1e-9);
            hand(w, sum(wish) > reserve ? cutBack(wish, reserve) : wish, price);
        }
        int left = left(w);
        if (left == 0) {
            return;
        }
        int asked = sum(work.bids);
        if (asked <= left) {
            hand(w, new TreeMap<>(work.bids), work.price);
        } else if (asked - left <= Math.floor(left * rules[2] / 100.0 + 1e-9)) {
            hand(w, cutBack(work.bids, left), work.price);
        }
        double price = Math.ceil((double) work.price * asked / left - 1e-9);
        price = Math.min(price, Math.floor(work.price * rules[3] / 100.0 + 1e-9));
        price = Math.max(price, Math.ceil(work.price * rules[4] / 100.0 - 1e-9));
        work.price = (int) Math.min(9999, Math.max(price, rules[5]));
    }

    private void hand(int w, Map<Integer, Integer> won, int price) {
        won.forEach((bidder, shares) -> {
            sales.add(new Sold(round, bidder, w, shares));
            points.merge(bidder, -shares * price, Integer::sum);
            works.get(w).bids.merge(bidder, -shares, Integer::sum);
        });
    }

    private static TreeMap<Integer, Integer> cutBack(TreeMap<Integer, Integer> wish, int n) {
        long all = sum(wish);
        TreeMap<Integer, Integer> won = new TreeMap<>();
        wish.forEach((bidder, shares) -> won.put(bidder, (int) ((long) shares * n / all)));
        List<Integer> order = new ArrayList<>(wish.keySet());
        order.sort(Comparator.comparingLong((Integer b) -> -((long) wish.get(b) * n % all)).thenComparingInt(b -> b));
        int over = n - sum(won);
        for (Integer bidder : order.subList(0, over)) {
            won.merge(bidder, 1, Integer::sum);
        }
        return won;
    }

    int about(int w, int what) {
        if (!isWork(w) || what < 0 || what > 3) {
            return -1;
        }
        WorkState work = works.get(w);
        return List.of(work.shares, left(w), work.price, sum(work.bids)).get(what);
    }

    int price(int w, int asOf) {
        return isWork(w) ? works.get(w).prices.getOrDefault(asOf, -1) : -1;
    }

    int purse(int bidder, int what) {
        if (!points.containsKey(bidder) || what < 0 || what > 4) {
            throw new NoSuchElementException();
        }
        int given = gifts.stream().filter(g -> g.fund == bidder).mapToInt(Gift::points).sum();
        int kept = -1;
        if (bidder >= 24) {
            BigInteger worth = BigInteger.valueOf(points.get(bidder));
            for (int w = 0; w < works.size(); w++) {
                worth = worth.add(BigInteger.valueOf((long) held(bidder, w, round) * works.get(w).price));
            }
            BigInteger told = BigInteger.valueOf((long) promises.get(bidder - 24) * given);
            kept = worth.multiply(BigInteger.valueOf(100)).compareTo(told) >= 0 ? 1 : 0;
        }
        int holding = 0;
        for (int w = 0; w < works.size(); w++) {
            holding += held(bidder, w, round);
        }
        return List.of(points.get(bidder), cost(bidder), bidder >= 24 ? given : -1, kept, holding).get(what);
    }

    int holds(int bidder, int w, int asOf) {
        if (!points.containsKey(bidder) || !isWork(w) || asOf < 0 || asOf > round) {
            return -1;
        }
        return held(bidder, w, asOf);
    }

    int asks(int bidder, int w) {
        return points.containsKey(bidder) && isWork(w) ? works.get(w).bids.getOrDefault(bidder, 0) : -1;
    }

    long owned(int person, int w, int asOf, int what) {
        if (!isPerson(person) || !isWork(w) || asOf < 0 || asOf > round || what < 0 || what > 1) {
            throw new NoSuchElementException();
        }
        BigInteger lower = BigInteger.valueOf(works.get(w).shares);
        BigInteger upper = BigInteger.ZERO;
        List<Integer> given = new ArrayList<>();
        for (int f = 24; f < 24 + promises.size(); f++) {
            int fund = f;
            given.add(Math.max(1, gifts.stream().filter(g -> g.fund == fund).mapToInt(Gift::points).sum()));
            lower = lower.multiply(BigInteger.valueOf(given.get(f - 24)));
        }
        BigInteger whole = lower.divide(BigInteger.valueOf(works.get(w).shares));
        upper = upper.add(whole.multiply(BigInteger.valueOf(held(person, w, asOf))));
        for (Gift gift : gifts) {
            if (gift.person == person) {
                BigInteger part = whole.divide(BigInteger.valueOf(given.get(gift.fund - 24)));
                upper = upper.add(part.multiply(BigInteger.valueOf((long) gift.points * held(gift.fund, w, asOf))));
            }
        }
        BigInteger common = upper.gcd(lower);
        return (what == 0 ? upper : lower).divide(common).longValueExact();
    }

    int count(int what) {
        if (what < 0 || what > 5) {
            return -1;
        }
        return List.of(round, works.size(), workers.size(), promises.size(), soldInAll(), tape.length()).get(what);
    }

    private boolean isPerson(int bidder) {
        return bidder >= 0 && bidder < workers.size();
    }

    private boolean isWork(int w) {
        return w >= 0 && w < works.size();
    }

    private int cost(int bidder) {
        return works.stream().mapToInt(work -> work.bids.getOrDefault(bidder, 0) * work.price).sum();
    }

    private int left(int w) {
        return works.get(w).shares - sales.stream().filter(s -> s.work == w).mapToInt(Sold::shares).sum();
    }

    private int held(int bidder, int w, int asOf) {
        return sales.stream().filter(s -> s.bidder == bidder && s.work == w && s.round < asOf).mapToInt(Sold::shares).sum();
    }

    private int soldInAll() {
        return sales.stream().mapToInt(Sold::shares).sum();
    }

    private static int sum(Map<Integer, Integer> numbers) {
        return numbers.values().stream().mapToInt(n -> n).sum();
    }
}

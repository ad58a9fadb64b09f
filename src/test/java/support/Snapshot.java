import java.util.LinkedHashMap;
import java.util.Map;

/** All that can be asked of a sale. Dear in calls: for sales with few WORKS, BIDDERS and ROUNDS. */
final class Snapshot {
    private final Map<String, Long> answers = new LinkedHashMap<>();

    Snapshot(CouponSale sale) {
        int rounds = sale.count(0) + 1;
        int works = sale.count(1);
        for (int what = 0; what <= 5; what++) {
            put("count " + what, sale.count(what));
            put("rule " + what, sale.rule(what));
        }
        put("fault", sale.fault());
        for (int w = 0; w < works; w++) {
            for (int what = 0; what <= 3; what++) {
                put("about " + w + " " + what, sale.about(w, what));
            }
            for (int round = 0; round < rounds; round++) {
                put("price " + w + " " + round, sale.price(w, round));
            }
        }
        for (int person = 0; person < sale.count(2); person++) {
            putBidder(sale, person, works, rounds);
            putOwned(sale, person, works, rounds);
        }
        for (int f = 0; f < sale.count(3); f++) {
            putBidder(sale, 24 + f, works, rounds);
        }
    }

    private void putBidder(CouponSale sale, int bidder, int works, int rounds) {
        for (int what = 0; what <= 4; what++) {
            put("purse " + bidder + " " + what, sale.purse(bidder, what));
        }
        for (int w = 0; w < works; w++) {
            put("asks " + bidder + " " + w, sale.asks(bidder, w));
            for (int round = 0; round < rounds; round++) {
                put("holds " + bidder + " " + w + " " + round, sale.holds(bidder, w, round));
            }
        }
    }

    private void putOwned(CouponSale sale, int person, int works, int rounds) {
        for (int w = 0; w < works; w++) {
            for (int round = 0; round < rounds; round++) {
                put("owned upper " + person + " " + w + " " + round, sale.owned(person, w, round, 0));
                put("owned lower " + person + " " + w + " " + round, sale.owned(person, w, round, 1));
            }
        }
    }

    private void put(String what, long answer) {
        answers.put(what, answer);
    }

    /** Empty, if all answers are the same. */
    String differenceFrom(Snapshot other) {
        StringBuilder text = new StringBuilder();
        answers.forEach((what, answer) -> {
            if (!answer.equals(other.answers.get(what))) {
                text.append(what + " from " + answer + " to " + other.answers.get(what) + "; ");
            }
        });
        if (answers.size() != other.answers.size()) {
            text.append("how much there is");
        }
        return text.toString();
    }
}

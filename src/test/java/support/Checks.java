import java.nio.charset.StandardCharsets;
import java.util.Arrays;
import java.util.NoSuchElementException;

/** Counts and prints what is not as due, and feeds texts to a sale. */
final class Checks {
    /** A call that may throw NoSuchElementException. */
    interface Call {
        long answer();
    }

    private int right;
    private int wrong;

    void due(String what, long got, long want) {
        if (got == want) {
            right++;
        } else {
            wrong(what + " answered " + got + ", due is " + want);
        }
    }

    void due(String what, boolean got, boolean want) {
        due(what, got ? 1 : 0, want ? 1 : 0);
    }

    void dueThrow(String what, Call call) {
        try {
            long got = call.answer();
            wrong(what + " answered " + got + ", due is NoSuchElementException");
        } catch (NoSuchElementException e) {
            right++;
        }
    }

    /** A call that answers as due, and all that can be asked of the sale is then as it was ahead of it. */
    void dueAndAllStays(String what, CouponSale sale, Call call, long want) {
        Snapshot ahead = new Snapshot(sale);
        due(what, call.answer(), want);
        dueAllStays(what, ahead, new Snapshot(sale));
    }

    /** A call that throws, and all that can be asked of the sale is then as it was ahead of it. */
    void dueThrowAndAllStays(String what, CouponSale sale, Call call) {
        Snapshot ahead = new Snapshot(sale);
        dueThrow(what, call);
        dueAllStays(what, ahead, new Snapshot(sale));
    }

    private void dueAllStays(String what, Snapshot ahead, Snapshot behind) {
        String difference = ahead.differenceFrom(behind);
        if (difference.isEmpty()) {
            right++;
        } else {
            wrong(what + " changed " + difference);
        }
    }

    void wrong(String what) {
        wrong++;
        System.out.println(what);
    }

    boolean isAllRight() {
        return wrong == 0 && right > 0;
    }

    void finish() {
        System.out.println(right + " answers as due, " + wrong + " not");
        if (wrong != 0) {
            System.exit(1);
        }
    }

    /** Puts a text behind the tape; more than 140 bytes in all are left out. */
    static void tape(CouponSale sale, String text) {
        byte[] bytes = text.getBytes(StandardCharsets.ISO_8859_1);
        int ahead = sale.count(5);
        for (int from = 0; from < bytes.length; from += 20) {
            byte[] part = Arrays.copyOf(Arrays.copyOfRange(bytes, from, Math.min(bytes.length, from + 20)), 20);
            sale.feed(number(part, 0), number(part, 4), number(part, 8), number(part, 12), number(part, 16));
        }
        sale.end(ahead + bytes.length);
    }

    static int rules(CouponSale sale, String text) {
        tape(sale, text);
        return sale.rules();
    }

    private static int number(byte[] bytes, int from) {
        int number = 0;
        for (int i = from; i < from + 4; i++) {
            number = number << 8 | bytes[i] & 255;
        }
        return number;
    }
}

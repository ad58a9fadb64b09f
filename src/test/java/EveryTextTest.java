import java.util.List;

/** Promises 2 to 6: every text of a few pieces, at the tape's begin and about byte 120, against the model. */
public final class EveryTextTest {
    private static final String[] PIECES = {"cut", "rise", "rises", "301", "7", "0007", "00007", "100", " ", "\n", ";",
        "#", "c7", "7c", "\t", "."};
    private static final int MOST_PRINTED = 20;
    private static final List<String> AHEAD = List.of("", "cut", "cut 7", "cut 7;");

    private int texts;
    private int wrong;

    public static void main(String[] args) {
        EveryTextTest test = new EveryTextTest();
        test.withPieces("", 4);
        for (int length = 114; length <= 122; length++) {
            for (String ahead : AHEAD) {
                test.withPieces(ahead + " ".repeat(length - ahead.length()), 2);
            }
        }
        System.out.println(test.texts + " texts, " + test.wrong + " wrong");
        if (test.wrong != 0) {
            System.exit(1);
        }
    }

    private void withPieces(String text, int more) {
        compare(text);
        for (int i = 0; i < PIECES.length && more > 0; i++) {
            withPieces(text + PIECES[i], more - 1);
        }
    }

    private void compare(String text) {
        CouponSale sale = new CouponSale();
        ModelSale model = new ModelSale();
        Checks.tape(sale, text);
        model.tape(text);
        boolean same = sale.rules() == model.rules() && sale.fault() == model.fault() && sale.count(5) == 0;
        for (int k = 0; k < 6; k++) {
            same &= sale.rule(k) == model.rule(k);
        }
        texts++;
        if (!same && wrong++ < MOST_PRINTED) {
            System.out.println("not as the model: '" + text + "'");
        }
    }
}

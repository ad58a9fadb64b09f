import java.io.IOException;
import java.nio.ByteBuffer;
import java.nio.charset.StandardCharsets;
import java.nio.file.Files;
import java.nio.file.Path;
import java.util.Arrays;
import java.util.Set;
import java.util.stream.Collectors;

/** README.md: its code stands here line by line, and answers what the page says. */
public final class ReadmeTest {
    private static final Path PAGE = Path.of("README.md");
    private static final Path THIS = Path.of("src/test/java/ReadmeTest.java");

    public static void main(String[] args) throws IOException {
        Checks checks = new Checks();
        use(checks);
        rules(checks);
        codeStandsHere(checks);
        checks.finish();
    }

    private static void use(Checks checks) {
        CouponSale sale = new CouponSale();
        int film = sale.work(100, 10);
        int ann = sale.person(film);
        int bob = sale.person(CouponSale.NONE);
        int fund = sale.fund(120);
        sale.give(bob, fund, 400);
        sale.bid(ann, film, 30);
        sale.bid(fund, film, 40);
        int sold = sale.close();
        int points = sale.purse(ann, 0);
        int priceNow = sale.about(film, 2);
        long upper = sale.owned(bob, film, 1, 0);
        long lower = sale.owned(bob, film, 1, 1);
        checks.due("sold", sold, 70);
        checks.due("ROUND", sale.count(0), 1);
        checks.due("points", points, 750);
        checks.due("priceNow", priceNow, 7);
        checks.due("upper", upper, 2);
        checks.due("lower", lower, 5);
    }

    private static void rules(Checks checks) {
        CouponSale sale = new CouponSale();
        checks.due("told", tellRules(sale, "workers 20; cut 40;"), 2);
        checks.due("workers", sale.rule(0), 20);
        checks.due("cut", sale.rule(2), 40);
        checks.due("half", sale.rule(1), 50);
        checks.due("with a FAULT", tellRules(sale, "cut 400;"), -5);
        checks.due("its kind", sale.fault(), 2);
        checks.due("cut stays", sale.rule(2), 40);
    }

    static int tellRules(CouponSale sale, String text) {
        byte[] bytes = text.getBytes(StandardCharsets.ISO_8859_1);
        ByteBuffer tape = ByteBuffer.wrap(Arrays.copyOf(bytes, (bytes.length + 19) / 20 * 20));
        while (tape.hasRemaining()) {
            sale.feed(tape.getInt(), tape.getInt(), tape.getInt(), tape.getInt(), tape.getInt());
        }
        sale.end(bytes.length);
        return sale.rules();
    }

    private static void codeStandsHere(Checks checks) throws IOException {
        Set<String> here = Files.readAllLines(THIS).stream().map(String::strip).collect(Collectors.toSet());
        boolean code = false;
        for (String line : Files.readAllLines(PAGE)) {
            if (line.startsWith("```")) {
                code = line.equals("```java");
            } else if (code) {
                String bare = line.replaceAll("//.*", "").strip();
                checks.due("stands in the test: " + bare, here.contains(bare), true);
            }
        }
    }
}

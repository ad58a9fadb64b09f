import java.io.IOException;
import java.lang.reflect.InvocationTargetException;
import java.lang.reflect.Method;
import java.nio.file.Path;
import java.util.ArrayList;
import java.util.Comparator;
import java.util.HashMap;
import java.util.List;
import java.util.Map;

/**
 * The document sentence by sentence: each test quotes the words that it stands for, those words stand
 * in the document, and no word of "Terms" or of a promise is without a test.
 * With names of tests as arguments, those tests alone are run.
 */
public final class SentencesTest {
    private static final List<Class<?>> TESTS = List.of(SentencesOnTerms.class, SentencesOnRuleTexts.class,
        SentencesOnRoundEnds.class, SentencesOnOwning.class, SentencesOnRuleCalls.class, SentencesOnTakingPart.class,
        SentencesOnTelling.class);

    public static void main(String[] args) throws IOException, IllegalAccessException {
        Document document = new Document(Path.of("../shared/DOC.md"));
        if (!document.isAtHand()) {
            System.out.println("../shared/DOC.md is not at hand: the quotes are not looked up in it");
        }
        int wrong = 0;
        List<Method> tests = inOrderOf(document);
        for (Method test : tests) {
            Says says = test.getAnnotation(Says.class);
            if (document.isAtHand() && document.quote(says.where(), says.words()) < 0) {
                wrong++;
                System.out.println(title(test) + " does not stand there just once");
            }
            if (args.length == 0 || List.of(args).contains(test.getName())) {
                wrong += holds(test) ? 0 : 1;
            }
        }
        for (String words : document.unquoted()) {
            wrong++;
            System.out.println("without a test: " + words);
        }
        System.out.println(tests.size() + " sentences and parts of them, " + wrong + " wrong");
        if (wrong != 0) {
            System.exit(1);
        }
    }

    private static List<Method> inOrderOf(Document document) {
        List<Method> tests = new ArrayList<>();
        Map<Method, Integer> places = new HashMap<>();
        for (Class<?> tested : TESTS) {
            for (Method method : tested.getDeclaredMethods()) {
                Says says = method.getAnnotation(Says.class);
                if (says != null) {
                    tests.add(method);
                    places.put(method, document.quote(says.where(), says.words()));
                }
            }
        }
        tests.sort(Comparator.<Method>comparingInt(places::get).thenComparing(Method::getName));
        return tests;
    }

    private static boolean holds(Method test) throws IllegalAccessException {
        Checks checks = new Checks();
        try {
            test.invoke(null, checks);
        } catch (InvocationTargetException e) {
            checks.wrong("threw " + e.getCause());
        }
        if (checks.isAllRight()) {
            return true;
        }
        System.out.println("NOT HELD: " + title(test));
        return false;
    }

    private static String title(Method test) {
        Says says = test.getAnnotation(Says.class);
        return says.where() + ", '" + says.words() + "' (" + test.getName() + ")";
    }
}

import java.io.IOException;
import java.lang.reflect.InvocationTargetException;
import java.lang.reflect.Method;
import java.util.ArrayList;
import java.util.Comparator;
import java.util.List;
import java.util.stream.Stream;

/** Runs the tests of single sentences, and sees that they quote the document and leave none of its words out. */
public final class SentencesTest {
    private static final Class<?>[] TESTS = {
        TermsOfFlows.class,
        TermsOfEquations.class,
        TermsOfChecking.class,
        TermsOfInstants.class,
        PromisesOfBuilding.class,
        PromisesOfChecking.class,
        PromisesOfRunning.class,
    };
    private static final int PROMISES = 14;

    public static void main(String[] args) throws IOException {
        List<Method> tests = new ArrayList<>();
        for (Class<?> one : TESTS) {
            Stream.of(one.getDeclaredMethods())
                .filter(method -> method.isAnnotationPresent(Says.class))
                .sorted(Comparator.comparing(Method::getName))
                .forEach(tests::add);
        }
        int failed = 0;
        for (Method test : tests) {
            failed += passes(test) ? 0 : 1;
        }
        System.out.println(tests.size() + " tests of sentences, " + failed + " failed");
        compareWithDocument(tests);
        Due.end();
    }

    private static boolean passes(Method test) {
        Says says = test.getAnnotation(Says.class);
        Due.begin(says.under() + " \"" + says.words() + "\" " + test.getName());
        int wrong = Due.wrongSoFar();
        try {
            test.invoke(null);
        } catch (InvocationTargetException thrown) {
            Due.holds("the test threw " + thrown.getCause(), false);
        } catch (IllegalAccessException denied) {
            Due.holds("the test can't be called", false);
        }
        return Due.wrongSoFar() == wrong;
    }

    private static void compareWithDocument(List<Method> tests) throws IOException {
        Due.begin("The document");
        if (!Document.isThere()) {
            System.out.println("the document is not there to compare the quotations with");
            return;
        }
        Document document = new Document();
        for (Method test : tests) {
            Says says = test.getAnnotation(Says.class);
            Due.holds(test.getName() + " quotes what does not stand under " + says.under() + ": " + says.words(),
                document.says(says.under(), says.words()));
        }
        isQuotedWhole(document, "Terms");
        for (int promise = 1; promise <= PROMISES; promise++) {
            isQuotedWhole(document, "Promise " + promise);
        }
    }

    private static void isQuotedWhole(Document document, String heading) {
        String left = document.unquoted(heading);
        Due.holds(heading + " has words that no test quotes: " + left, left.isEmpty());
    }
}

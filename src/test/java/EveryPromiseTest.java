import java.lang.reflect.Method;
import java.util.List;
import java.util.Set;
import java.util.TreeSet;

/** Each promise of the document has tests of its edges, each under a name of its own. */
public final class EveryPromiseTest {
    private static final List<Class<?>> EDGES = List.of(EdgesOfTermsTest.class, EdgesOfDrawingTest.class,
            EdgesOfSendingTest.class, EdgesOfPicturesTest.class, EdgesOfMovesTest.class, EdgesOfForesightTest.class,
            EdgesOfSentTest.class, EdgesOfTextTest.class, EdgesOfStatesTest.class);

    public static void main(String[] args) {
        Set<String> names = new TreeSet<>();
        int tests = 0;
        for (Class<?> edges : EDGES) {
            for (Method test : Check.testsOf(edges)) {
                names.add(test.getName());
                tests++;
            }
        }
        Check.due("names of tests", names.size(), tests);
        for (int promise = 1; promise <= 36; promise++) {
            String begin = String.format("promise%02d_", promise);
            Check.due("tests of promise " + promise, names.stream().anyMatch(name -> name.startsWith(begin)), true);
        }
        Check.end("EveryPromiseTest, " + tests + " tests of edges");
    }
}

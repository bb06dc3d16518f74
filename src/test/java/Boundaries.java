import java.lang.reflect.InvocationTargetException;
import java.lang.reflect.Method;
import java.util.ArrayList;
import java.util.Comparator;
import java.util.List;

/**
 * Runs a test for each sentence of the document, at the boundaries that the sentence names, and looks
 * whether every sentence has one. A test is a static method with a Sentence, after which it is named.
 */
public final class Boundaries {
    private static final List<Class<?>> GROUPS = List.of(
        TextBoundaries.class, FaultBoundaries.class, AnalysisBoundaries.class, InstantBoundaries.class,
        ResultBoundaries.class, PlaceBoundaries.class, PromiseBoundaries.class, ExplorationBoundaries.class,
        StatementBoundaries.class);
    /** Headings, signatures, and what is said of no answer. */
    private static final List<String> WITHOUT = List.of(
        "Signals and programs", "The text", "Codes", "The must/can analysis", "Instants", "Dependencies", "Exploration",
        "Results and error codes", "Examples: Each of them begins with a new object; the results are given behind the calls",
        "---- texts", "---- instants", "---- exploration", "---- statements");
    private static final List<String> SECTIONS_WITHOUT = List.of("The public face", "Not promised");
    /** Of the first section only this sentence speaks of a bound. */
    private static final String CALLS = "An object is used for at most 512 calls";

    public static void main(String[] args) throws Exception {
        Check check = new Check();
        Document document = new Document();
        List<Method> tests = new ArrayList<>();
        for (Class<?> group : GROUPS) {
            for (Method method : group.getDeclaredMethods()) {
                if (method.isAnnotationPresent(Sentence.class)) tests.add(method);
            }
        }
        tests.sort(Comparator.<Method>comparingInt(test -> document.indexOf(sentenceOf(test).in(), sentenceOf(test).words()))
            .thenComparing(Method::getName));
        for (Method test : tests) run(test, check);
        everySentenceIsTested(document, tests.stream().map(Boundaries::sentenceOf).toList(), check);
        System.out.println("Boundaries: " + tests.size() + " tests");
        check.end("Boundaries");
    }

    private static Sentence sentenceOf(Method test) {
        return test.getAnnotation(Sentence.class);
    }

    private static void run(Method test, Check check) throws IllegalAccessException {
        String name = sentenceOf(test).in() + ", \"" + sentenceOf(test).words() + "\", " + test.getName();
        Check own = new Check(name + ": ");
        try {
            test.setAccessible(true);
            test.invoke(null, own);
        } catch (InvocationTargetException thrown) {
            own.holds("it ends, but " + thrown.getCause(), false);
        }
        own.holds("it asks something", own.asked() > 0);
        check.add(own);
        System.out.println((own.wrong() == 0 ? "  ok: " : "  FAILED: ") + name);
    }

    private static void everySentenceIsTested(Document document, List<Sentence> tested, Check check) {
        for (Sentence test : tested) {
            boolean stands = document.sentences(test.in()).stream().anyMatch(s -> s.contains(test.words()));
            check.holds("\"" + test.words() + "\" stands in the section " + test.in(), stands);
        }
        for (String section : document.sections()) {
            for (String sentence : document.sentences(section)) {
                boolean has = tested.stream().anyMatch(t -> t.in().equals(section) && sentence.contains(t.words()));
                check.holds(section + ", \"" + sentence + "\" has a test", has || isWithout(section, sentence));
            }
        }
    }

    private static boolean isWithout(String section, String sentence) {
        boolean isSignature = sentence.startsWith("`") && sentence.endsWith("`");
        boolean tellsWhatItIs = section.equals("What it is") && !sentence.startsWith(CALLS);
        return isSignature || tellsWhatItIs || WITHOUT.contains(sentence) || SECTIONS_WITHOUT.contains(section);
    }
}

import java.io.IOException;
import java.lang.reflect.Method;
import java.nio.file.Files;
import java.nio.file.Path;
import java.util.regex.Matcher;
import java.util.regex.Pattern;

/** The four examples of the document, every call with its answer: as written here, and as read from the document. */
public final class ExampleRuns {
    private static final Path DOCUMENT = Path.of("../shared/DOC.md");
    private static final Pattern NUMBER_OR_CALL = Pattern.compile("(?m)^(\\d)\\. |(\\w+)\\(([-\\d,\\s]*)\\)\\s*=\\s*(-?\\d+)");

    public static void main(String[] args) throws ReflectiveOperationException, IOException {
        Check check = new Check();
        example1(check);
        example2(check);
        example3(check);
        example4(check);
        int written = check.asked();
        check.due("examples in the document", asInTheDocument(check), 4);
        check.due("calls in the document", check.asked() - written - 1, written);
        check.end("ExampleRuns");
    }

    /** Makes every call that the document's examples show; returns the number of examples. */
    private static int asInTheDocument(Check check) throws ReflectiveOperationException, IOException {
        String document = Files.readString(DOCUMENT);
        int begin = document.indexOf("\nExamples: ");
        int end = document.indexOf("\nThe constructor and the methods follow", begin);
        Matcher found = NUMBER_OR_CALL.matcher(document.substring(Math.max(begin, 0), Math.max(end, 0)));
        SettledInstants x = new SettledInstants();
        int examples = 0;
        while (found.find()) {
            if (found.group(1) != null) {
                x = new SettledInstants();
                examples++;
            } else {
                String call = "the document's " + examples + ": " + found.group();
                check.due(call, answer(x, found.group(2), found.group(3)), Integer.parseInt(found.group(4)));
            }
        }
        return examples;
    }

    private static int answer(SettledInstants x, String name, String arguments) throws ReflectiveOperationException {
        String[] words = arguments.isBlank() ? new String[0] : arguments.strip().split(",\\s*");
        Object[] values = new Object[words.length];
        Class<?>[] types = new Class<?>[words.length];
        for (int k = 0; k < words.length; k++) {
            values[k] = Integer.valueOf(words[k]);
            types[k] = int.class;
        }
        Method method = SettledInstants.class.getMethod(name, types);
        return (int) method.invoke(x, values);
    }

    /** An await, then an emission. */
    private static void example1(Check check) {
        SettledInstants x = new SettledInstants();
        check.due("1: write(38)", x.write(38), 1);
        check.due("1: write(97)", x.write(97), 2);
        check.due("1: write(59)", x.write(59), 3);
        check.due("1: write(33)", x.write(33), 4);
        check.due("1: write(98)", x.write(98), 5);
        check.due("1: program(0)", x.program(0), 1);
        check.due("1: instant(0, 0)", x.instant(0, 0), 0);
        check.due("1: state(0)", x.state(0), 1);
        check.due("1: would(0, 0, 0)", x.would(0, 0, 0), 0);
        check.due("1: instant(0, 1)", x.instant(0, 1), 3);
        check.due("1: state(0)", x.state(0), 0);
        check.due("1: undo(0)", x.undo(0), 1);
        check.due("1: soon(0, 1, 1)", x.soon(0, 1, 1), 1);
        check.due("1: states(0, 1, 0)", x.states(0, 1, 0), 3);
        check.due("1: node(0, 1, 0)", x.node(0, 1, 0), 59);
        check.due("1: node(0, 0, 3)", x.node(0, 0, 3), 0);
    }

    /** A signal that depends on itself. */
    private static void example2(Check check) {
        SettledInstants x = new SettledInstants();
        check.due("2: write(63)", x.write(63), 1);
        check.due("2: write(97)", x.write(97), 2);
        check.due("2: write(123)", x.write(123), 3);
        check.due("2: write(48)", x.write(48), 4);
        check.due("2: write(125)", x.write(125), 5);
        check.due("2: write(123)", x.write(123), 6);
        check.due("2: write(33)", x.write(33), 7);
        check.due("2: write(97)", x.write(97), 8);
        check.due("2: write(125)", x.write(125), 9);
        check.due("2: program(0)", x.program(0), 0);
        check.due("2: would(0, 0, 1)", x.would(0, 0, 1), 1);
        check.due("2: waits(0, 0, 0)", x.waits(0, 0, 0), 1);
        check.due("2: ring(0, 0)", x.ring(0, 0), 1);
        check.due("2: instant(0, 0)", x.instant(0, 0), -1000003);
        check.due("2: instant(0, 1)", x.instant(0, 1), 1);
        check.due("2: found(0, 0, 1, 0)", x.found(0, 0, 1, 0), -1000003);
    }

    /** A loop without a pause, and an exit from a trap. */
    private static void example3(Check check) {
        SettledInstants x = new SettledInstants();
        check.due("3: write(42)", x.write(42), 1);
        check.due("3: write(123)", x.write(123), 2);
        check.due("3: write(33)", x.write(33), 3);
        check.due("3: write(97)", x.write(97), 4);
        check.due("3: write(125)", x.write(125), 5);
        check.due("3: program(1)", x.program(1), -100);
        check.due("3: fault()", x.fault(), 5);
        check.due("3: write(94)", x.write(94), 1);
        check.due("3: write(123)", x.write(123), 2);
        check.due("3: write(120)", x.write(120), 3);
        check.due("3: write(48)", x.write(48), 4);
        check.due("3: write(59)", x.write(59), 5);
        check.due("3: write(46)", x.write(46), 6);
        check.due("3: write(125)", x.write(125), 7);
        check.due("3: program(0)", x.program(0), 1);
        check.due("3: instant(0, 0)", x.instant(0, 0), 0);
    }

    /** A local signal. */
    private static void example4(Check check) {
        SettledInstants x = new SettledInstants();
        check.due("4: write(36)", x.write(36), 1);
        check.due("4: write(97)", x.write(97), 2);
        check.due("4: write(123)", x.write(123), 3);
        check.due("4: write(33)", x.write(33), 4);
        check.due("4: write(97)", x.write(97), 5);
        check.due("4: write(59)", x.write(59), 6);
        check.due("4: write(63)", x.write(63), 7);
        check.due("4: write(97)", x.write(97), 8);
        check.due("4: write(123)", x.write(123), 9);
        check.due("4: write(33)", x.write(33), 10);
        check.due("4: write(98)", x.write(98), 11);
        check.due("4: write(125)", x.write(125), 12);
        check.due("4: write(125)", x.write(125), 13);
        check.due("4: program(0)", x.program(0), 0);
        check.due("4: would(0, 0, 0)", x.would(0, 0, 0), 2);
        check.due("4: part(1)", x.part(1), -1000001);
    }
}

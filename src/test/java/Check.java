/** What the tests share: counts the answers that are not as due, and writes texts. */
final class Check {
    private final String name;
    private int wrong = 0;
    private int asked = 0;

    Check() {
        this("");
    }

    /** The name stands before every wrong answer that is told. */
    Check(String name) {
        this.name = name;
    }

    void due(String call, long got, long want) {
        asked++;
        if (got != want) {
            wrong++;
            System.out.println(name + call + " answered " + got + ", due is " + want);
        }
    }

    /** Adds the answers of a test to these. */
    void add(Check test) {
        asked += test.asked;
        wrong += test.wrong;
    }

    int wrong() {
        return wrong;
    }

    int asked() {
        return asked;
    }

    void holds(String what, boolean condition) {
        due(what + " (1 if it holds)", condition ? 1 : 0, 1);
    }

    /** Ends the test, with exit code 1 if an answer was wrong. */
    void end(String test) {
        System.out.println(test + ": " + asked + " answers, " + wrong + " not as due");
        if (wrong != 0 || asked == 0) {
            System.exit(1);
        }
    }

    static void write(SettledInstants x, String text) {
        for (int i = 0; i < text.length(); i++) {
            x.write(text.charAt(i));
        }
    }

    static int read(SettledInstants x, int place, String text) {
        x.erase();
        write(x, text);
        return x.program(place);
    }

    /** A new object with the program at place 0. */
    static SettledInstants with(String text) {
        SettledInstants x = new SettledInstants();
        int answer = read(x, 0, text);
        if (answer < 0) {
            throw new IllegalStateException("the test's own text " + text + " was refused: " + answer);
        }
        return x;
    }

    /** A new object with a program at each place. */
    static SettledInstants with(String zero, String one) {
        SettledInstants x = with(zero);
        int answer = read(x, 1, one);
        if (answer < 0) {
            throw new IllegalStateException("the test's own text " + one + " was refused: " + answer);
        }
        return x;
    }

    /** A text is read at place 1 of a new object. */
    void text(String text, int answer, int fault) {
        SettledInstants x = new SettledInstants();
        due("program(1) of " + text, read(x, 1, text), answer);
        due("fault() of " + text, x.fault(), fault);
        due("the length of the text after " + text, x.erase(), 0);
        due("the state after " + text, x.state(1), fault == 0 ? 1048576 : -1000001);
    }

    /** The whole program is analysed: the signals that it must and can emit, the codes that it must and can have. */
    void found(String name, SettledInstants x, int there, int notThere, int... want) {
        for (int what = 0; what < 4; what++) {
            due(name + ": found(0, " + there + ", " + notThere + ", " + what + ")", x.found(0, there, notThere, what), want[what]);
        }
    }

    /** The instants of a new program: signals from outside, signals present, next state, and so on. */
    void course(String text, int... triples) {
        SettledInstants x = with(text);
        for (int k = 0; k + 2 < triples.length; k += 3) {
            due(text + ": instant " + k / 3, x.instant(0, triples[k]), triples[k + 1]);
            due(text + ": state " + k / 3, x.state(0), triples[k + 2]);
        }
    }

    static String repeat(String part, int times) {
        return part.repeat(times);
    }
}

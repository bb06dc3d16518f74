/** What the tests share: counts the answers that are not as due, and writes texts. */
final class Check {
    private int wrong = 0;
    private int asked = 0;

    void due(String call, long got, long want) {
        asked++;
        if (got != want) {
            wrong++;
            System.out.println(call + " answered " + got + ", due is " + want);
        }
    }

    void holds(String what, boolean condition) {
        due(what + " (1 if it holds)", condition ? 1 : 0, 1);
    }

    /** Ends the test, with exit code 1 if an answer was wrong. */
    void end(String test) {
        System.out.println(test + ": " + asked + " answers, " + wrong + " not as due");
        if (wrong != 0 || asked == 0) {
            System.exit(1);
        }
    }

    static void write(SettledInstants x, String text) {
        for (int i = 0; i < text.length(); i++) {
            x.write(text.charAt(i));
        }
    }

    static int read(SettledInstants x, int place, String text) {
        x.erase();
        write(x, text);
        return x.program(place);
    }

    /** A new object with the program at place 0. */
    static SettledInstants with(String text) {
        SettledInstants x = new SettledInstants();
        int answer = read(x, 0, text);
        if (answer < 0) {
            throw new IllegalStateException("the test's own text " + text + " was refused: " + answer);
        }
        return x;
    }

    /** A new object with a program at each place. */
    static SettledInstants with(String zero, String one) {
        SettledInstants x = with(zero);
        int answer = read(x, 1, one);
        if (answer < 0) {
            throw new IllegalStateException("the test's own text " + one + " was refused: " + answer);
        }
        return x;
    }

    static String repeat(String part, int times) {
        return part.repeat(times);
    }
}

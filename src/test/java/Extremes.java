/** Arguments from far outside, in several states: no call throws, and all answer as the Model does. */
public final class Extremes {
    private static final int[] FAR = {
        Integer.MIN_VALUE, Integer.MIN_VALUE + 1, -1000004, -1000001, -256, -100, -2, -1, 0, 1, 2, 3, 4, 5, 7, 8, 9, 10,
        19, 20, 31, 32, 33, 59, 60, 61, 119, 120, 121, 255, 256, 257, 1 << 20, 1 << 30, Integer.MAX_VALUE - 1, Integer.MAX_VALUE};
    private static final String[] TEXTS = {
        "&a;!b", "?a{!b}|?b{!a}", "*{@c{(&a|&b);!d;*{.}}}", "$a{?a{!a}}", "^{^{.;x1|&a}};!h", "*{0}", "x", ""};
    private static final Check CHECK = new Check();

    public static void main(String[] args) {
        for (String text : TEXTS) {
            for (int instants = 0; instants < 4; instants++) {
                inState(text, instants);
            }
        }
        beyondAllCalls();
        CHECK.end("Extremes");
    }

    private static void inState(String text, int instants) {
        SettledInstants x = new SettledInstants();
        Model model = new Model();
        for (int place = 0; place < 2; place++) {
            for (int i = 0; i < text.length(); i++) {
                x.write(text.charAt(i));
                model.write(text.charAt(i));
            }
            CHECK.due("program of " + text, x.program(place), model.program(place));
        }
        for (int k = 0; k < instants; k++) {
            CHECK.due("instant of " + text, x.instant(0, 1), model.instant(0, 1));
        }
        for (int a : FAR) {
            oneArgument(x, model, a);
            for (int b : FAR) {
                twoArguments(x, model, a, b);
                for (int c : FAR) {
                    threeArguments(x, model, a, b, c);
                }
            }
        }
    }

    private static void oneArgument(SettledInstants x, Model model, int a) {
        CHECK.due("write(" + a + ")", x.write(a), model.write(a));
        CHECK.due("state(" + a + ")", x.state(a), model.state(a));
        CHECK.due("part(" + a + ")", x.part(a), model.part(a));
        if (a < 0 || a > 1) {
            CHECK.due("program(" + a + ")", x.program(a), model.program(a));
            CHECK.due("undo(" + a + ")", x.undo(a), model.undo(a));
            CHECK.due("restart(" + a + ")", x.restart(a), model.restart(a));
        }
    }

    private static void twoArguments(SettledInstants x, Model model, int a, int b) {
        CHECK.due("ring(" + a + ", " + b + ")", x.ring(a, b), model.ring(a, b));
        CHECK.due("count(" + a + ", " + b + ")", x.count(a, b), model.count(a, b));
        if (a < 0 || a > 1 || b < 0 || b > 255) {
            CHECK.due("instant(" + a + ", " + b + ")", x.instant(a, b), model.instant(a, b));
        }
    }

    private static void threeArguments(SettledInstants x, Model model, int a, int b, int c) {
        CHECK.due("would(" + a + ", " + b + ", " + c + ")", x.would(a, b, c), model.would(a, b, c));
        CHECK.due("waits(" + a + ", " + b + ", " + c + ")", x.waits(a, b, c), model.waits(a, b, c));
        CHECK.due("states(" + a + ", " + b + ", " + c + ")", x.states(a, b, c), model.states(a, b, c));
        CHECK.due("soon(" + a + ", " + b + ", " + c + ")", x.soon(a, b, c), model.soon(a, b, c));
        CHECK.due("node(" + a + ", " + b + ", " + c + ")", x.node(a, b, c), model.node(a, b, c));
        CHECK.due("found(0, " + a + ", " + b + ", " + c + ")", x.found(0, a, b, c), model.found(0, a, b, c));
    }

    /** An object may be used longer than the document speaks of; it must not throw then, either. */
    private static void beyondAllCalls() {
        SettledInstants x = Check.with("*{.;!a;.}");
        for (int k = 0; k < 5000; k++) {
            x.instant(0, k & 255);
            x.write(k & 255);
        }
        CHECK.due("at most 20 after 5000 instants", x.count(0, 3), 20);
        CHECK.due("at most 120 after 5000 bytes", x.count(0, 4), 120);
    }
}

import java.util.ArrayList;
import java.util.List;
import java.util.function.Supplier;

/**
 * A call that changes nothing is made on one of two objects with the same past; after it both must
 * give the same answers to all questions.
 */
final class Refusal {
    interface Call {
        int on(SettledInstants x);
    }

    private final Check check;
    private final Supplier<SettledInstants> past;

    Refusal(Check check, Supplier<SettledInstants> past) {
        this.check = check;
        this.past = past;
    }

    void due(String name, Call call, int want) {
        SettledInstants asked = past.get();
        check.due(name, call.on(asked), want);
        check.holds(name + " changed nothing", portrait(asked).equals(portrait(past.get())));
    }

    /** Asks the object for all that it holds, last what can be seen only by changing it. */
    private static List<Integer> portrait(SettledInstants x) {
        List<Integer> seen = new ArrayList<>();
        seen.add(x.fault());
        for (int place = 0; place < 2; place++) {
            for (int what = 0; what < 5; what++) seen.add(x.count(place, what));
            for (int node = 0; node < x.count(place, 0); node++) seen.add(x.node(place, node, 0));
            for (int what = 0; what < 5; what++) seen.add(x.would(place, 3, what));
            for (int more = 1; more >= 0; ) {
                seen.add(x.state(place));
                more = x.undo(place);
                seen.add(more);
            }
        }
        seen.add(x.program(0));
        seen.add(x.fault());
        for (int node = 0; node < x.count(0, 0); node++) seen.add(x.node(0, node, 0));
        seen.add(x.erase());
        return seen;
    }

    /** No program and no text. */
    static SettledInstants ofNew() {
        return new SettledInstants();
    }

    /** No program, a text, and the fault 5. */
    static SettledInstants withText() {
        SettledInstants x = new SettledInstants();
        Check.read(x, 0, "*{0}");
        Check.write(x, ".;!h");
        return x;
    }

    /** Programs at both places, behind three instants and in START, a text, and the fault 2. */
    static SettledInstants busy() {
        SettledInstants x = Check.with("*{.;.;!b|&c}", "?a{!a};.");
        Check.read(x, 0, "x0");
        for (int k = 0; k < 3; k++) x.instant(0, k);
        Check.write(x, "!a|.");
        return x;
    }

    /** A full text, 20 instants that can be undone and older ones that are forgotten; place 1 has ended. */
    static SettledInstants full() {
        SettledInstants x = Check.with("*{.;.;.}", "!a");
        for (int k = 0; k < 22; k++) x.instant(0, 0);
        x.instant(1, 0);
        Check.write(x, "!h" + Check.repeat(" ", 118));
        return x;
    }
}

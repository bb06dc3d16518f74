/** Promises 14 to 16: states, soon, part. */
public final class ExplorationPromises {
    private static final int NONE = -1, UNKNOWN = -1000001, OUTSIDE = -1000002, FULL = -1000004;
    private static final Check CHECK = new Check();
    /** Loops of 9 and 11 pauses: 99 states and START; a adds the state ENDED. */
    private static final String HUNDRED =
        "@a{*{" + Check.repeat(".;", 8) + ".}|*{" + Check.repeat(".;", 10) + ".}}";
    private static final int[] NO_MASKS = {0, 15, 255, 256, 240, -1, 257, Integer.MIN_VALUE, Integer.MAX_VALUE, 1 << 30};

    public static void main(String[] args) {
        states();
        classes();
        fullStates();
        soon();
        soonAndFull();
        part();
        partAndFull();
        CHECK.end("ExplorationPromises");
    }

    private static void due(String call, int got, int want) {
        CHECK.due(call, got, want);
    }

    private static void explored(String text, int mask, int states, int classes, int rejected) {
        SettledInstants x = Check.with(text);
        due(text + ": states", x.states(0, mask, 0), states);
        due(text + ": classes", x.states(0, mask, 1), classes);
        due(text + ": rejected", x.states(0, mask, 2), rejected);
        due(text + ": the state stays", x.state(0), 1048576);
    }

    private static void states() {
        SettledInstants x = Check.with(".;.", "0");
        due("states(2, 0, 3)", x.states(2, 0, 3), UNKNOWN);
        due("states(-1, 1, 0)", x.states(-1, 1, 0), UNKNOWN);
        for (int mask : NO_MASKS) {
            due("states with the mask " + mask, x.states(0, mask, 0), OUTSIDE);
        }
        due("what above", x.states(0, 1, 3), OUTSIDE);
        due("what below", x.states(0, 1, -1), OUTSIDE);
        due("the mask 224", x.states(0, 224, 0), 4);
        x.instant(0, 0);
        due("it begins with START, whatever the state is", x.states(0, 1, 0), 4);
        due("place 1", x.states(1, 1, 0), 2);
        explored("0", 1, 2, 1, 0);
        explored("&a|&b", 1, 3, 1, 0);
        explored("&a|&b", 3, 5, 1, 0);
        explored("?a{0}{!a}", 1, 2, 2, 1);
        explored("?a{0}{!a}", 2, 1, 1, 2);
        explored("?a{!a}|.", 6, 1, 1, 4);
        explored(".;?a{!a};!b", 2, 2, 2, 2);
        explored("?c{.}{$a{?a{!a}}}", 4, 3, 2, 1);
    }

    private static void classes() {
        explored("*{.;.;.}", 1, 4, 1, 0);
        explored("*{!a;.}", 2, 2, 1, 0);
        explored("*{!a;.;.}", 2, 3, 2, 0);
        explored("*{!a;.;.;!a;.;.}", 2, 5, 2, 0);
        explored("!a;.;.;!a", 2, 4, 4, 0);
        explored(".;.;.;.;!a", 2, 6, 6, 0);
        explored("&a;!b|&a;!b", 1, 3, 3, 0);
        explored("&a;&b;!c", 3, 4, 4, 0);
        // two waits that behave alike, reached by different signals
        explored("?a{&c;!d}{&c;!d}", 5, 4, 3, 0);
        explored(".;?a{&c;!d}{&c;!d}", 5, 5, 4, 0);
        // the same signals, but one of them is rejected
        explored(".;?b{.}{.;?a{!a}}", 2, 5, 4, 2);
        SettledInstants x = Check.with(".;?b{!c}");
        due("by a and b", x.states(0, 3, 1), 3);
        due("by c, after it", x.states(0, 4, 1), 1);
        // a chain in which only the last state differs
        explored(Check.repeat(".;", 20) + "!a", 2, 22, 22, 0);
    }

    private static void fullStates() {
        SettledInstants x = Check.with(HUNDRED);
        due("100 states", x.states(0, 2, 0), 100);
        due("100 states, one class", x.states(0, 2, 1), 1);
        due("100 states, none rejected", x.states(0, 2, 2), 0);
        for (int what = 0; what < 3; what++) {
            due("101 states", x.states(0, 1, what), FULL);
        }
        due("101 states, out of range", x.states(0, 1, 3), OUTSIDE);
        due("100 states again", x.states(0, 14, 0), 100);
    }

    private static void soon() {
        SettledInstants x = Check.with("&a;.;!b;?c{?d{!d}};!e", "0");
        due("soon(2, 0, 10)", x.soon(2, 0, 10), UNKNOWN);
        for (int mask : NO_MASKS) {
            due("soon with the mask " + mask, x.soon(0, mask, 8), OUTSIDE);
        }
        due("what above", x.soon(0, 1, 10), OUTSIDE);
        due("what below", x.soon(0, 1, -1), OUTSIDE);
        due("a signal in the mask", x.soon(0, 1, 0), OUTSIDE);
        due("h in the mask", x.soon(0, 129, 7), OUTSIDE);
        due("b", x.soon(0, 1, 1), 3);
        due("e", x.soon(0, 1, 4), 3);
        due("the end", x.soon(0, 1, 8), 3);
        due("without a never", x.soon(0, 2, 8), NONE);
        due("h never", x.soon(0, 1, 7), NONE);
        due("rejected", x.soon(0, 5, 9), 3);
        due("not rejected without c", x.soon(0, 1, 9), NONE);
        x.instant(0, 0);
        due("from the present state", x.soon(0, 5, 9), 2);
        x.instant(0, 1);
        due("from the next one", x.soon(0, 1, 1), 1);
        due("rejected from the next one", x.soon(0, 6, 9), 1);
        due("the state stays", x.state(0), 2);
        x.instant(0, 0);
        due("ENDED: the next state is ENDED", x.soon(0, 1, 8), 1);
        due("ENDED: no signal", x.soon(0, 1, 1), NONE);
        due("ENDED: not rejected", x.soon(0, 1, 9), NONE);
        due("place 1 ends at once", x.soon(1, 1, 8), 1);
        x = Check.with(".;!a", "!b|?a{!a}");
        due("a", x.soon(0, 2, 0), 2);
        due("the mask may have the signal behind", x.soon(0, 2, 2), NONE);
        due("a rejected instant has no signals", x.soon(1, 4, 1), NONE);
        due("a rejected instant has no next state", x.soon(1, 4, 8), NONE);
        due("a rejected instant", x.soon(1, 4, 9), 1);
    }

    private static void soonAndFull() {
        SettledInstants x = Check.with(HUNDRED);
        due("the end is found before 101 states", x.soon(0, 1, 8), 2);
        due("100 states without the event", x.soon(0, 2, 9), NONE);
        due("101 states without the event", x.soon(0, 1, 9), FULL);
        x.instant(0, 0);
        due("99 states and ENDED without the event", x.soon(0, 1, 9), NONE);
        // loops of 3, 5 and 7 pauses, in which h is present in the instant that reaches the 101st state
        x = Check.with("*{!b;.;.;.}|*{.;.;.;.;!c;.}|*{.;?b{?c{!h}};.;.;.;.;.;.}");
        due("h with the 101st state", x.soon(0, 1, 7), 100);
        x = Check.with("*{.;!b;.;.}|*{!c;.;.;.;.;.}|*{.;.;?b{?c{!h}};.;.;.;.;.}");
        due("h behind the 101st state", x.soon(0, 1, 7), FULL);
        x.instant(0, 0);
        due("h from the next state", x.soon(0, 1, 7), 100);
    }

    private static void part() {
        SettledInstants x = Check.with("&a;!b");
        due("no program at place 1", x.part(1), UNKNOWN);
        due("no program at place 1, no mask", x.part(0), UNKNOWN);
        Check.read(x, 1, "&a;!b");
        for (int mask : NO_MASKS) {
            due("part with the mask " + mask, x.part(mask), OUTSIDE);
        }
        due("the same program", x.part(1), NONE);
        parts("!a", "!b", 1, 1);
        parts("!a", "!b", 3, 1);
        parts("?a{!b}", "?a{!c}", 8, NONE);
        parts("?a{!b}", "?a{!c}", 1, 1);
        parts(".;.;!a", ".;.;0", 2, 3);
        parts(".;.;.", "0", 2, NONE);
        parts("&a;&a;!b", "&a;!b", 1, 2);
        parts("@a{.;!b};!c", "~a{.;!b};!c", 1, 2);
        parts("@a{.;!b};!c", "~a{.;!b};!c", 8, NONE);
        parts("?a{!a}", "0", 2, 1);
        parts("?a{!a}", "?b{!b}", 4, NONE);
        parts("?a{!a}", "?b{!b}", 1, 1);
        parts("$a{?a{!a}}", "?b{!b}", 4, NONE);
        parts("*{!a;.}", "*{!a;.;!a;.}", 2, NONE);
        parts("*{!a;.}", "*{!a;.;!a;.;.}", 2, 3);
        x = Check.with(".;!a", ".;!a");
        x.instant(0, 0);
        due("both begin with START, whatever the states are", x.part(2), NONE);
        due("the state stays", x.state(0), 1);
    }

    private static void parts(String one, String two, int mask, int want) {
        due(one + " and " + two, Check.with(one, two).part(mask), want);
        due(two + " and " + one, Check.with(two, one).part(mask), want);
    }

    private static void partAndFull() {
        parts(HUNDRED, "@a{*{.;.}}", 2, NONE);
        parts(HUNDRED, "@a{*{.;.}}", 1, NONE);
        parts(HUNDRED, ".;@a{*{.;.}}", 2, NONE);
        parts(HUNDRED, ".;@a{*{.;.}}", 1, FULL);
        parts(HUNDRED, "*{.;.;.;.}", 2, FULL);
        parts(HUNDRED, "*{.;.;.;.}|.;.;.;!h", 2, 4);
        // loops of 2, 3, 5 and 7 pauses, in which h is present in the instant that reaches the 201st pair
        parts("$a{$b{$c{*{.;!a;.}|*{.;!b;.;.}|*{.;.;.;.;!c;.}|*{.;.;.;?a{?b{?c{!h}}};.;.;.;.}}}}", "*{.}", 8, 200);
        parts("$a{$b{$c{*{!a;.;.}|*{.;.;!b;.}|*{!c;.;.;.;.;.}|*{.;.;.;.;?a{?b{?c{!h}}};.;.;.}}}}", "*{.}", 8, FULL);
    }
}

/** What the promises 14 to 16 say beside the places of programs. */
final class ExplorationBoundaries {
    private static final int NONE = -1, UNKNOWN = -1000001, OUTSIDE = -1000002, FULL = -1000004;
    private static final int START = 1048576, ENDED = 0;
    private static final int LEAST = Integer.MIN_VALUE, MOST = Integer.MAX_VALUE;
    private static final int[] NO_MASKS = {0, -1, 15, 30, 240, 255, 256, 257, 384, 1 << 30, LEAST, LEAST + 1, MOST};
    private static final int ABC = 7;
    /** START and loops of 9 and 11 pauses: 100 states; with a ENDED is the 101st. */
    private static final String HUNDRED = "@a{*{" + Check.repeat(".;", 8) + ".}|*{" + Check.repeat(".;", 10) + ".}}";
    /** Loops of 3, 5 and 7 pauses; in the 100th instant s is executed, which reaches the 101st state. */
    private static final String EVENT_100 = "*{!b;.;.;.}|*{.;.;.;.;!c;.}|*{.;?b{?c{s}};.;.;.;.;.;.}";
    /** The same one instant later. */
    private static final String EVENT_101 = "*{.;!b;.;.}|*{!c;.;.;.;.;.}|*{.;.;?b{?c{s}};.;.;.;.;.}";
    /** Loops of 2, 3, 5 and 7 pauses; in the 200th instant h is present, in the 201st in the other one. */
    private static final String EVENT_200 = "$a{$b{$c{*{.;!a;.}|*{.;!b;.;.}|*{.;.;.;.;!c;.}|*{.;.;.;?a{?b{?c{!h}}};.;.;.;.}}}}";
    private static final String EVENT_201 = "$a{$b{$c{*{!a;.;.}|*{.;.;!b;.}|*{!c;.;.;.;.;.}|*{.;.;.;.;?a{?b{?c{!h}}};.;.;.}}}}";

    /** Three loops that a, b and c move on: as many states as the product, and START. */
    private static String loops(int a, int b, int c) {
        return loop("&a", a) + "|" + loop("&b", b) + "|" + loop("&c", c);
    }

    private static String loop(String part, int times) {
        return "*{" + part + Check.repeat(";" + part, times - 1) + "}";
    }

    private static void explored(Check check, String text, int mask, int states, int classes, int rejected) {
        SettledInstants x = Check.with(text);
        check.due(text + ": states", x.states(0, mask, 0), states);
        check.due(text + ": classes", x.states(0, mask, 1), classes);
        check.due(text + ": rejected", x.states(0, mask, 2), rejected);
    }

    // ---- 14: states

    @Sentence(in = "Promise 14", words = "Explores a program by a mask, beginning with the state START")
    static void statesBeginWithStart(Check check) {
        SettledInstants x = Check.with(".;.;.");
        for (int instants = 0; instants < 5; instants++) {
            int state = x.state(0);
            check.due("states after " + instants, x.states(0, 1, 0), 5);
            check.due("the state stays", x.state(0), state);
            check.due("the instants stay", x.count(0, 3), instants);
            x.instant(0, 0);
        }
        new Refusal(check, Refusal::busy).due("states(0, 4, 0)", y -> y.states(0, 4, 0), 5);
    }

    @Sentence(in = "Promise 14", words = "Two states are equivalent if, for each subset of the mask, both instants are rejected, or both are not, have the same signals present and lead to equivalent states (the largest relation with this property)")
    static void equivalentStates(Check check) {
        explored(check, "*{.;.;.}", 1, 4, 1, 0);
        explored(check, "*{!b;.;.}", 1, 3, 2, 0);
        explored(check, ".;.;!b", 1, 4, 4, 0);
        // both instants are rejected
        explored(check, "?a{.;?b{!b}}{.;?c{!c}}", 1, 3, 2, 4);
        // one of them is not, for one subset only
        explored(check, "?a{.;?d{!d}}{.;?a{?d{!d}}}", 1, 4, 4, 3);
        // only the last subset shows a difference
        explored(check, "?a{.;?a{?b{?c{!d}}}}{.}", ABC, 4, 3, 0);
        explored(check, "?a{.;?a{?b{?c{!d}}}}{.}", 3, 4, 1, 0);
        // the largest number of classes: all states differ
        String all = "*{!b;" + Check.repeat(".;", 8) + ".}|*{!c;" + Check.repeat(".;", 10) + ".}";
        explored(check, "!d|" + all, 1, 100, 100, 0);
        // the last state behaves as START does
        explored(check, all, 1, 100, 99, 0);
    }

    @Sentence(in = "Promise 14", words = "`mask`: the mask")
    static void masksOfStates(Check check) {
        SettledInstants x = Check.with("?a{.}{?d{.;.}{?h{.;.;.}}}");
        check.due("a", x.states(0, 1, 0), 3);
        check.due("h", x.states(0, 128, 0), 5);
        check.due("a and d", x.states(0, 9, 0), 5);
        check.due("a, d and h", x.states(0, 137, 0), 8);
        check.due("others", x.states(0, 70, 0), 2);
        check.due("no signals", x.states(0, 0, 0), OUTSIDE);
        check.due("four signals", x.states(0, 139, 0), OUTSIDE);
        check.due("signal 8", x.states(0, 256, 0), OUTSIDE);
    }

    @Sentence(in = "Promise 14", words = "`what`: 0 for the number of states that are reached, START included, 1 for the number of classes of equivalent ones among them, 2 for the number of rejected instants (pairs of a reached state and a subset)")
    static void threeNumbers(Check check) {
        explored(check, "0", 1, 2, 1, 0);
        explored(check, "?d{!d}", 1, 1, 1, 2);
        explored(check, "?d{!d}", ABC, 1, 1, 8);
        explored(check, ".;?d{!d}", ABC, 2, 2, 8);
        explored(check, "$d{?d{!d}}", 3, 1, 1, 4);
        explored(check, "&a;?b{?d{!d}}", 3, 3, 3, 1);
        // START can be reached only once, ENDED counts if it is reached
        explored(check, "*{.}", 1, 2, 1, 0);
        explored(check, "&a", 1, 3, 1, 0);
        explored(check, "&a", 2, 2, 1, 0);
        SettledInstants x = Check.with(loops(3, 3, 11) + "|*{?a{?b{?c{?d{!d}}}};.}");
        check.due("100 states", x.states(0, ABC, 0), 100);
        check.due("one class", x.states(0, ABC, 1), 1);
        check.due("a rejected instant in each", x.states(0, ABC, 2), 100);
    }

    @Sentence(in = "Promise 14", words = "Returns that number")
    static void statesAgain(Check check) {
        SettledInstants x = Check.with("?a{!b;.}{?c{!c}}", ".;.");
        for (int k = 0; k < 3; k++) {
            check.due("states", x.states(0, 1, 0), 3);
            check.due("rejected", x.states(0, 1, 2), 1);
            check.due("classes", x.states(0, 1, 1), 2);
            check.due("states of the other", x.states(1, ABC, 0), 4);
            check.due("rejected of the other", x.states(1, ABC, 2), 0);
            check.due("classes of the other", x.states(1, ABC, 1), 1);
        }
    }

    @Sentence(in = "Promise 14", words = "OUTSIDE if mask or what is out of range")
    static void statesOutside(Check check) {
        for (int mask : NO_MASKS) {
            new Refusal(check, Refusal::busy).due("states(0, " + mask + ", 0)", x -> x.states(0, mask, 0), OUTSIDE);
        }
        for (int what : new int[] {-1, 3, LEAST, MOST}) {
            new Refusal(check, Refusal::busy).due("states(0, 1, " + what + ")", x -> x.states(0, 1, what), OUTSIDE);
        }
        check.due("too many states, what is wrong", Check.with(HUNDRED).states(0, 1, 3), OUTSIDE);
    }

    @Sentence(in = "Promise 14", words = "FULL if more than 100 states are reached")
    static void statesFull(Check check) {
        String[] hundred = {loops(3, 3, 11), ".;(" + loops(2, 7, 7) + ")", HUNDRED};
        int[] masks = {ABC, ABC, 2};
        for (int k = 0; k < hundred.length; k++) {
            check.due(hundred[k] + ": 100 states", Check.with(hundred[k]).states(0, masks[k], 0), 100);
            check.due(hundred[k] + ": one class", Check.with(hundred[k]).states(0, masks[k], 1), 1);
            check.due(hundred[k] + ": none rejected", Check.with(hundred[k]).states(0, masks[k], 2), 0);
        }
        check.due("99 states", Check.with(loops(2, 7, 7)).states(0, ABC, 0), 99);
        for (int what = 0; what < 3; what++) {
            int asked = what;
            check.due("101 states", Check.with(loops(4, 5, 5)).states(0, ABC, what), FULL);
            check.due("101 states", Check.with(".;.;(" + loops(2, 7, 7) + ")").states(0, ABC, what), FULL);
            new Refusal(check, () -> Check.with(HUNDRED)).due("101 states", x -> x.states(0, 1, asked), FULL);
        }
        SettledInstants x = Check.with(loops(4, 5, 5));
        check.due("FULL", x.states(0, ABC, 0), FULL);
        check.due("a smaller mask behind it", x.states(0, 3, 0), 21);
    }

    // ---- 15: soon

    @Sentence(in = "Promise 15", words = "Explores a program by a mask, beginning with its present state, and finds the fewest instants after which an event occurs in the last of them")
    static void soonFromThePresentState(Check check) {
        SettledInstants x = Check.with("!b;.;.;.;!b;.");
        int[] want = {1, 3, 2, 1, NONE, NONE};
        int[] end = {5, 4, 3, 2, 1, 1};
        for (int instants = 0; instants < 6; instants++) {
            check.due("b after " + instants, x.soon(0, 1, 1), want[instants]);
            check.due("the end after " + instants, x.soon(0, 1, 8), end[instants]);
            check.due("the instants stay", x.count(0, 3), instants);
            x.instant(0, 0);
        }
        check.due("the fewest of several ways", Check.with("?a{?b{.;!d}{.;.;!d}}{.;.;.;!d}").soon(0, 3, 3), 2);
        check.due("a way back", Check.with("*{&a;!b;&c;!d}").soon(0, 5, 3), 3);
        new Refusal(check, Refusal::busy).due("soon(0, 4, 1)", y -> y.soon(0, 4, 1), 3);
    }

    @Sentence(in = "Promise 15", words = "`mask`: the mask")
    static void masksOfSoon(Check check) {
        SettledInstants x = Check.with("?a{?d{?h{!b}{.;!b}}{.;.;!b}}{.;.;.;!b}");
        check.due("a, d and h", x.soon(0, 137, 1), 1);
        check.due("a and d", x.soon(0, 9, 1), 2);
        check.due("a", x.soon(0, 1, 1), 3);
        check.due("h", x.soon(0, 128, 1), 4);
        check.due("no signals", x.soon(0, 0, 1), OUTSIDE);
        check.due("four signals", x.soon(0, 141, 1), OUTSIDE);
        check.due("signal 8", x.soon(0, 256, 1), OUTSIDE);
    }

    @Sentence(in = "Promise 15", words = "`what`: the event: 0 to 7, this signal, which must not be in the mask, is present")
    static void eventsOfSignals(Check check) {
        for (int signal = 0; signal < 8; signal++) {
            SettledInstants x = Check.with(".;!" + (char) ('a' + signal));
            for (int other = 0; other < 8; other++) {
                int want = other == signal ? OUTSIDE : 2;
                check.due("signal " + signal + " by " + other, x.soon(0, 1 << other, signal), want);
                check.due("another signal", x.soon(0, 1 << signal, other), other == signal ? OUTSIDE : NONE);
            }
        }
        check.due("in a mask of three", Check.with("!c").soon(0, ABC, 2), OUTSIDE);
        check.due("beside a mask of three", Check.with("!d").soon(0, ABC, 3), 1);
        check.due("not in a rejected instant", Check.with("!d;?e{!e}").soon(0, 1, 3), NONE);
        check.due("not a local signal", Check.with("$d{!d}").soon(0, 1, 3), NONE);
    }

    @Sentence(in = "Promise 15", words = "8, the next state is ENDED")
    static void eventOfTheEnd(Check check) {
        SettledInstants x = Check.with(".", "*{.}");
        check.due("from START", x.soon(0, 1, 8), 2);
        x.instant(0, 0);
        check.due("from the last state", x.soon(0, 1, 8), 1);
        x.instant(0, 0);
        check.due("from ENDED", x.soon(0, 1, 8), 1);
        check.due("never", x.soon(1, 1, 8), NONE);
        check.due("at once", Check.with("0").soon(0, 1, 8), 1);
        check.due("a rejected instant has no next state", Check.with("?a{!a}").soon(0, 2, 8), NONE);
    }

    @Sentence(in = "Promise 15", words = "9, the instant is rejected")
    static void eventOfRejection(Check check) {
        check.due("at once", Check.with("?d{!d}").soon(0, 1, 9), 1);
        check.due("a local signal", Check.with("$d{?d{!d}}").soon(0, 1, 9), 1);
        check.due("later", Check.with(".;?a{?d{!d}}").soon(0, 1, 9), 2);
        check.due("with another signal never", Check.with(".;?a{?d{!d}}").soon(0, 2, 9), NONE);
        SettledInstants x = Check.with("0");
        x.instant(0, 0);
        check.due("ENDED", x.soon(0, 1, 9), NONE);
    }

    @Sentence(in = "Promise 15", words = "Returns the number of instants, 1 or more")
    static void fromOneTo100Instants(Check check) {
        check.due("1", Check.with("!b").soon(0, 1, 1), 1);
        for (int pauses = 1; pauses <= 20; pauses++) {
            check.due(pauses + " pauses", Check.with(Check.repeat(".;", pauses) + "!b").soon(0, 1, 1), pauses + 1);
        }
        check.due("100", Check.with(EVENT_100.replace("s", "!h")).soon(0, 1, 7), 100);
    }

    @Sentence(in = "Promise 15", words = "NONE if the event does not occur")
    static void noEvent(Check check) {
        SettledInstants x = Check.with("*{.}");
        for (int what = 1; what < 10; what++) check.due("event " + what, x.soon(0, 1, what), NONE);
        check.due("in ENDED", Refusal.full().soon(1, 1, 7), NONE);
        check.due("behind a rejected instant", Check.with("?d{!d};!b").soon(0, 1, 1), NONE);
        check.due("in 100 states", Check.with(loops(3, 3, 11)).soon(0, ABC, 7), NONE);
    }

    @Sentence(in = "Promise 15", words = "OUTSIDE if mask or what is out of range or the signal is in the mask")
    static void soonOutside(Check check) {
        for (int mask : NO_MASKS) {
            new Refusal(check, Refusal::busy).due("soon(0, " + mask + ", 8)", x -> x.soon(0, mask, 8), OUTSIDE);
        }
        for (int what : new int[] {-1, 10, 32, LEAST, MOST}) {
            new Refusal(check, Refusal::busy).due("soon(0, 1, " + what + ")", x -> x.soon(0, 1, what), OUTSIDE);
        }
        for (int signal = 0; signal < 8; signal++) {
            int in = signal;
            new Refusal(check, Refusal::busy).due("signal " + signal, x -> x.soon(0, 1 << in, in), OUTSIDE);
        }
        check.due("8 is no signal of a mask", Check.with("0").soon(0, 131, 8), 1);
        check.due("9 is no signal of a mask", Check.with("0").soon(0, 131, 9), NONE);
    }

    @Sentence(in = "Promise 15", words = "FULL if, before the event is found, more than 100 states are reached (the present one included)")
    static void soonFull(Check check) {
        check.due("100 states from START", Check.with(loops(3, 3, 11)).soon(0, ABC, 7), NONE);
        SettledInstants x = Check.with(loops(4, 5, 5));
        check.due("101 states from START", x.soon(0, ABC, 7), FULL);
        x.instant(0, 0);
        check.due("100 states from another", x.soon(0, ABC, 7), NONE);
        check.due("100 states with a pause", Check.with(".;(" + loops(2, 7, 7) + ")").soon(0, ABC, 7), NONE);
        x = Check.with(".;.;(" + loops(2, 7, 7) + ")");
        check.due("101 states, the present one included", x.soon(0, ABC, 7), FULL);
        x.instant(0, 0);
        check.due("100 states, the present one included", x.soon(0, ABC, 7), NONE);
        check.due("an event before the 101st state", Check.with(HUNDRED).soon(0, 1, 8), 2);
        check.due("an event with the 101st state", Check.with(EVENT_100.replace("s", "!h")).soon(0, 1, 7), 100);
        check.due("an event behind the 101st state", Check.with(EVENT_101.replace("s", "!h")).soon(0, 1, 7), FULL);
        check.due("rejected instead of the 101st state", Check.with(EVENT_100.replace("s", "?d{!d}")).soon(0, 1, 9), 100);
        check.due("rejected behind the 101st state", Check.with(EVENT_101.replace("s", "?d{!d}")).soon(0, 1, 9), FULL);
        for (int what : new int[] {7, 9}) {
            new Refusal(check, () -> Check.with(HUNDRED)).due("101 states, " + what, y -> y.soon(0, 1, what), FULL);
        }
    }

    // ---- 16: part

    private static void parts(Check check, String one, String two, int mask, int want) {
        check.due(one + " and " + two + " by " + mask, Check.with(one, two).part(mask), want);
        check.due(two + " and " + one + " by " + mask, Check.with(two, one).part(mask), want);
    }

    @Sentence(in = "Promise 16", words = "Compares the programs at the places 0 and 1 by a mask, both beginning with START: pairs of states are explored together, in the order in which they are reached, with the same signals from outside for both")
    static void partBeginsWithStart(Check check) {
        SettledInstants x = Check.with("!b;.;.;!c", "!b;.;.;!c");
        for (int instants = 0; instants < 5; instants++) {
            check.due("after " + instants, x.part(1), NONE);
            check.due("the instants stay", x.count(0, 3), instants);
            check.due("the other state stays", x.state(1), START);
            x.instant(0, 0);
        }
        parts(check, "&a;!c|&b;!d", "&b;!d|&a;!c", 3, NONE);
        parts(check, "?a{!c}{!d}", "?b{!c}{!d}", 3, 1);
        new Refusal(check, Refusal::busy).due("part(4)", y -> y.part(4), 1);
    }

    @Sentence(in = "Promise 16", words = "`mask`: the mask")
    static void masksOfPart(Check check) {
        String one = "?a{?d{?h{!b}{.;!b}}{.;.;!b}}{.;.;.;!b}", two = "0";
        parts(check, one, two, 137, 1);
        parts(check, one, two, 9, 2);
        parts(check, one, two, 1, 3);
        parts(check, one, two, 128, 4);
        parts(check, one, two, 0, OUTSIDE);
        parts(check, one, two, 141, OUTSIDE);
        parts(check, one, two, 256, OUTSIDE);
    }

    @Sentence(in = "Promise 16", words = "Returns the fewest instants such that in the last of them one of the two instants is rejected and the other is not, or different signals are present")
    static void fromOneTo200Instants(Check check) {
        parts(check, "!b", "0", 1, 1);
        parts(check, "!h", "!g", 1, 1);
        parts(check, "?d{!d}", "0", 1, 1);
        parts(check, "$d{?d{!d}}", "0", 1, 1);
        parts(check, ".;?a{?d{!d}}", ".", 1, 2);
        parts(check, ".;?a{?d{!d}}", ".", 2, NONE);
        parts(check, "?a{.;!d}{.;.;!d}", ".;.", 1, 2);
        for (int pauses = 1; pauses <= 20; pauses++) {
            parts(check, Check.repeat(".;", pauses) + "!b", "0", 1, pauses + 1);
        }
        parts(check, EVENT_100.replace("s", "!h"), EVENT_100.replace("s", "0"), 1, 100);
        parts(check, EVENT_200, "*{.}", 8, 200);
    }

    @Sentence(in = "Promise 16", words = "NONE if there is no such difference")
    static void noDifference(Check check) {
        parts(check, "0", "0", 1, NONE);
        parts(check, "0", ".;.;.", 1, NONE);
        parts(check, "?d{!d}", "$e{?e{!e}}", 1, NONE);
        // both are rejected in the first instant, and what is behind it is never reached
        parts(check, "?d{!d};.;!b", "?d{!d};.;!c", 1, NONE);
        parts(check, "*{!b;.}", "*{!b;.;!b;.}", 1, NONE);
        parts(check, "@a{.;!b};!c", "~a{.;!b};!c", 8, NONE);
        // pairs of an earlier comparison are not looked at
        SettledInstants x = Check.with("*{.;.;.}", "*{.;.}");
        check.due("seven pairs", x.part(1), NONE);
        Check.read(x, 0, "*{!b;.;.;.}");
        Check.read(x, 1, "*{!b;.;.;.}");
        check.due("four pairs behind them", x.part(1), NONE);
    }

    @Sentence(in = "Promise 16", words = "UNKNOWN if there is no program at one of the places")
    static void partUnknown(Check check) {
        for (int place = 0; place < 2; place++) {
            int filled = place;
            Refusal refusal = new Refusal(check, () -> {
                SettledInstants x = new SettledInstants();
                Check.read(x, filled, ".;!a");
                x.instant(filled, 0);
                Check.write(x, "!b");
                return x;
            });
            refusal.due("only at " + place, x -> x.part(1), UNKNOWN);
            refusal.due("only at " + place + ", no mask", x -> x.part(0), UNKNOWN);
        }
        new Refusal(check, Refusal::ofNew).due("at none", x -> x.part(1), UNKNOWN);
        new Refusal(check, Refusal::withText).due("at none", x -> x.part(1), UNKNOWN);
    }

    @Sentence(in = "Promise 16", words = "OUTSIDE if mask is out of range")
    static void partOutside(Check check) {
        for (int mask : NO_MASKS) {
            new Refusal(check, Refusal::busy).due("part(" + mask + ")", x -> x.part(mask), OUTSIDE);
            new Refusal(check, Refusal::full).due("part(" + mask + ")", x -> x.part(mask), OUTSIDE);
        }
    }

    @Sentence(in = "Promise 16", words = "FULL if, before a difference is found, more than 200 pairs of states are reached (the first one included)")
    static void partFull(Check check) {
        parts(check, HUNDRED, "*{.;.}", 2, NONE);
        parts(check, HUNDRED, ".;*{.;.}", 2, NONE);
        parts(check, HUNDRED, ".;.;*{.;.}", 2, FULL);
        parts(check, HUNDRED, "@a{*{.;.}}", 1, NONE);
        parts(check, HUNDRED, "*{.;.;.;.}", 2, FULL);
        parts(check, HUNDRED, ".;.;*{.;.}|.;!h", 2, 2);
        parts(check, EVENT_200, "*{.}", 8, 200);
        parts(check, EVENT_201, "*{.}", 8, FULL);
        parts(check, EVENT_200.replace("!h", "?h{!h}"), "*{.}", 8, 200);
        parts(check, EVENT_201.replace("!h", "?h{!h}"), "*{.}", 8, FULL);
        new Refusal(check, () -> Check.with(HUNDRED, ".;.;*{.;.}")).due("201 pairs", x -> x.part(2), FULL);
    }
}

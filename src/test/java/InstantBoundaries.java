/** What the document says of instants and of dependencies. */
final class InstantBoundaries {
    private static final int NOT = -1000003, NONE = -1;
    private static final int START = 1048576, ENDED = 0;
    private static final int A = 1, B = 2, C = 4, D = 8;
    /** All eight signals, each of which makes the next one present. */
    private static final String CHAIN = "!a|?a{!b}|?b{!c}|?c{!d}|?d{!e}|?e{!f}|?f{!g}|?g{!h}";
    /** A local signal that cannot be settled. */
    private static final String LOOSE = "$h{?h{!h}}";

    @Sentence(in = "Description", words = "An instant has a set of signals from outside")
    static void fromNoneToAll(Check check) {
        for (int outside = 0; outside < 256; outside++) {
            SettledInstants x = Check.with("0;.");
            check.due("instant(0, " + outside + ")", x.instant(0, outside), outside);
            check.due("resuming: instant(0, " + outside + ")", x.instant(0, outside), outside);
        }
    }

    @Sentence(in = "Description", words = "In the state ENDED, these signals are present and no others, the code is 0, the state stays ENDED, and there are no rounds")
    static void ended(Check check) {
        SettledInstants x = Check.with("!h;?a{!a}{!b}");
        check.due("the last instant", x.instant(0, A), A | 128);
        for (int outside : new int[] {0, 1, 254, 255}) {
            check.due("present", x.would(0, outside, 0), outside);
            check.due("unsettled", x.would(0, outside, 1), 0);
            check.due("code", x.would(0, outside, 2), 0);
            check.due("next", x.would(0, outside, 3), ENDED);
            check.due("rounds", x.would(0, outside, 4), 0);
            check.due("instant", x.instant(0, outside), outside);
            check.due("state", x.state(0), ENDED);
        }
        // what was found for another program does not matter
        x = Check.with("0", "!b;.|?a{!a}");
        x.instant(0, 0);
        int[] want = {4, 0, 0, ENDED, 0};
        for (int what = 0; what < 5; what++) {
            x.would(1, 1, 3);
            check.due("behind one that rests: " + what, x.would(0, 4, what), want[what]);
            x.would(1, 0, 3);
            check.due("behind one that is rejected: " + what, x.would(0, 4, what), want[what]);
        }
    }

    @Sentence(in = "Description", words = "In any other state, the signals from outside are present at first and all others unknown")
    static void presentAtFirst(Check check) {
        SettledInstants x = Check.with("?a{!a}{!a}");
        check.due("a is unknown", x.would(0, 254, 1), A);
        check.due("a is present", x.would(0, A, 1), 0);
        check.due("all are present: one round", x.would(0, 255, 4), 1);
        check.due("a is present, others become absent", x.would(0, A, 4), 2);
        x = Check.with("?h{!h}");
        check.due("h is unknown", x.would(0, 127, 1), 128);
        check.due("h is present", x.would(0, 128, 0), 128);
    }

    @Sentence(in = "Description", words = "in each round the whole program, certainly executed, is analysed (it starts in the state START and resumes otherwise); the signals that it must emit become present, and the signals that it cannot emit and that are not present become absent")
    static void presentAndAbsent(Check check) {
        check.course("!a;?b{!c}{!d}", 0, A | D, ENDED);
        check.course("!a;?b{!c}{!d}", B, A | B | C, ENDED);
        // b cannot be emitted, but it is present
        check.course("0;.", B, B, 1, B, B, ENDED);
        check.course("?a{!b}{!c}|?b{!d}|?c{!a}", 0, NOT, START);
        check.course("?a{!b}{!c}|?b{!d}", 0, C, ENDED);
        check.course("$a{!a;?a{!b}{!c}}", 0, B, ENDED);
        check.course(".;!a", 0, 0, 1, 0, A, ENDED);
    }

    @Sentence(in = "Description", words = "The rounds end with the first one that changes nothing, which also counts")
    static void fromOneToNineRounds(Check check) {
        SettledInstants x = Check.with(CHAIN);
        for (int settled = 0; settled < 8; settled++) {
            check.due("rounds with the first " + settled, x.would(0, (1 << settled) - 1, 4), 9 - settled);
        }
        check.due("rounds with all", x.would(0, 255, 4), 1);
        check.due("rounds with all but a", x.would(0, 254, 4), 2);
        check.due("nothing changes", Check.with("?a{!a}").would(0, 254, 4), 1);
        check.due("one becomes absent", Check.with("0").would(0, 254, 4), 2);
        check.due("rejected after one change", Check.with("?a{!a}").would(0, 0, 4), 2);
        check.due("rejected without a change", Check.with("?a{!a}|?b{!b}").would(0, 252, 4), 1);
    }

    @Sentence(in = "Description", words = "The signals that are unknown then are unsettled")
    static void fromNoneToAllUnsettled(Check check) {
        String all = "?a{!a}|?b{!b}|?c{!c}|?d{!d}|?e{!e}|?f{!f}|?g{!g}|?h{!h}";
        SettledInstants x = Check.with(all);
        for (int outside : new int[] {0, 1, 127, 128, 254, 255}) {
            check.due("unsettled with " + outside, x.would(0, outside, 1), 255 - outside);
        }
        check.due("none", Check.with("0").would(0, 0, 1), 0);
    }

    @Sentence(in = "Description", words = "each statement that is executed completes with its code, as in the analysis with all signals known (a sequence executes right only if left completes with 0, and so on)")
    static void executed(Check check) {
        check.course("!a;.;!b", 0, A, 1, 0, B, ENDED);
        check.course("^{!a;x0;!b};!c", 0, A | C, ENDED);
        check.course("?a{.}{.;.}", A, A, 1, 0, 0, ENDED);
        check.course("?a{.}{.;.}", 0, 0, 2, 0, 0, 4, 0, 0, ENDED);
        check.course("@a{.};.", 0, 0, 1, A, A, 2);
        check.course("~a{.;.};.", 0, 0, 1, A, A, 4);
        check.course("~a{.;.};.", 0, 0, 1, 0, 0, 2);
        check.course("&a;.", A, A, 1, A, A, 2);
        check.course("(.|.;.);.", 0, 0, 3, 0, 0, 4, 0, 0, 8);
        check.course("^{^{x1|.};.};.", 0, 0, 4);
        check.course("^{^{x0|.};.};.", 0, 0, 2);
        // an abort does not execute its block, a weak abort does
        check.course("^{@a{.;x0};.};.", 0, 0, 1, A, A, 2);
        check.course("^{~a{.;x0};.};.", 0, 0, 1, A, A, 4);
        check.course("@a{.;" + LOOSE + "};.", 0, 0, 1, A, A, 2);
        check.course("~a{.;" + LOOSE + "};.", 0, 0, 1, A, NOT, 1);
    }

    @Sentence(in = "Description", words = "if the block must emit it, it is present; if the block cannot emit it, it is absent; otherwise it is unsettled, too, which is reported as bit 8 alone")
    static void localSignalsAreSettledOrNot(Check check) {
        check.course("$a{!a;?a{.}{.}}", 0, 0, 1);
        check.course("$a{?a{.}{.}}", A, A, 2);
        check.course("$a{?a{.}{.};!a}", 0, 0, 2);
        check.course(LOOSE, 255, NOT, START);
        check.due("bit 8 alone", Check.with(LOOSE).would(0, 0, 1), 256);
        check.due("bit 8 alone, of two", Check.with(LOOSE + "|" + LOOSE).would(0, 7, 1), 256);
        check.due("another signal is unsettled, so that nothing is executed", Check.with(LOOSE + "|?b{!b}").would(0, 0, 1), B);
        check.course(LOOSE + "|.", 0, NOT, START);
        check.course(".|" + LOOSE, 0, NOT, START);
        check.course("^{x0|" + LOOSE + "}", 0, NOT, START);
        // its block is analysed as certainly executed, so that b is present and emits a
        check.course("$a{$b{!b;?b{!a}};?a{.}{.}}", 0, 0, 1);
        SettledInstants x = Check.with("?a{" + LOOSE + "}{.;" + LOOSE + "}");
        check.due("executed", x.would(0, A, 1), 256);
        check.due("not executed", x.would(0, 0, 1), 0);
        x.instant(0, 0);
        check.due("executed when it resumes", x.would(0, 0, 1), 256);
        x = Check.with("*{.;^{x0;" + LOOSE + "}}");
        x.instant(0, 0);
        check.due("never executed behind an exit", x.would(0, 0, 1), 0);
        x = Check.with("*{$a{?b{?a{!a}};.}}");
        check.due("settled when it starts", x.instant(0, 0), 0);
        check.due("unsettled when it begins anew", x.would(0, B, 1), 256);
        check.due("settled when it begins anew", x.would(0, 0, 1), 0);
    }

    @Sentence(in = "Description", words = "If anything is unsettled the instant is rejected")
    static void rejected(Check check) {
        for (String text : new String[] {"?a{!a}", LOOSE, "?h{0}{!h}", "!b;?a{!a}"}) {
            SettledInstants x = Check.with(text);
            check.due(text, x.instant(0, 0), NOT);
            check.due(text + ": state", x.state(0), START);
            check.due(text + ": rejected", x.soon(0, 4, 9), 1);
        }
        check.due("nothing is unsettled", Check.with("?a{!a}").instant(0, A), A);
    }

    @Sentence(in = "Description", words = "Otherwise the code of the whole program is the code of the instant (0 or 1)")
    static void theCodeIs0Or1(Check check) {
        String[] texts = {"0", "!a", "^{x0}", "^{^{x1|.}}", "$a{!a}", ".", "&a", "0|.", "^{x0};.", "*{.}", "@a{.}"};
        for (int k = 0; k < texts.length; k++) check.due(texts[k], Check.with(texts[k]).would(0, 0, 2), k < 5 ? 0 : 1);
        SettledInstants x = Check.with("@a{*{.}}|~b{*{.}}");
        x.instant(0, 0);
        int[] codes = {1, 1, 1, 0};
        for (int outside = 0; outside < 4; outside++) check.due("with " + outside, x.would(0, outside, 2), codes[outside]);
    }

    @Sentence(in = "Description", words = "The next state is ENDED if the code is 0")
    static void nextIsEnded(Check check) {
        check.due("nothing", Check.with("0").would(0, 0, 3), ENDED);
        check.due("pauses that are left", Check.with("^{.|.|x0}").would(0, 0, 3), ENDED);
        SettledInstants x = Check.with("~a{.|&b|*{.}}");
        x.instant(0, 0);
        check.due("pauses that are aborted", x.would(0, A, 3), ENDED);
        check.due("pauses that are not", x.would(0, 0, 3), 6);
    }

    @Sentence(in = "Description", words = "it consists of those pause points that complete with code 1 in this instant and that are not contained in a statement that completes with another code (if a block is executed twice by a loop, the second time counts)")
    static void nextState(Check check) {
        check.course(".|0|&a", 0, 0, 3, 0, 0, 2, A, A, ENDED);
        check.course("^{.|&a|x0}|.", 0, 0, 4);
        check.course("^{^{.|x1}|&b};.|.", 0, 0, 12);
        check.course("~a{&b}|.;.", 0, 0, 3, A, A, 4);
        // what rested the first time does not count the second time
        check.course("*{~a{?b{&c}{.}}}", B, B, 1, A, A, 2, A | B, A | B, 1);
        check.course("*{^{&b;.|.;x0}}", 0, 0, 5, 0, 0, 5);
        check.course("*{*{.;.}|&a}", 0, 0, 5, 0, 0, 6, 0, 0, 5);
        check.course("*{.}", 0, 0, 1, 0, 0, 1);
    }

    @Sentence(in = "Description", words = "If an instant is rejected with unsettled signals s and t (which may be the same), s waits for t if, in the situation when the rounds have ended, making t present would have the effect that the program must emit s or cannot emit s, or making t absent would have this effect")
    static void waiting(Check check) {
        check.due("the same", Check.with("?a{!a}").waits(0, 0, 0), A);
        check.due("the same, h", Check.with("?h{!h}").waits(0, 0, 7), 128);
        String self = "|?b{!b}|?c{!c}";
        check.due("present: must", Check.with("?b{!a}{?c{!a}}" + self).waits(0, 0, 0), B);
        check.due("absent: must", Check.with("?b{?c{!a}}{!a}" + self).waits(0, 0, 0), B);
        check.due("absent: cannot", Check.with("?b{?c{!a}}" + self).waits(0, 0, 0), B | C);
        check.due("present: cannot", Check.with("?b{0}{?c{0}{!a}}" + self).waits(0, 0, 0), B | C);
        check.due("neither", Check.with("?b{?c{!a}}{?c{0}{!a}}" + self).waits(0, 0, 0), 0);
        check.due("one analysis and no further rounds", Check.with("?b{!a}|?c{!b}|?a{!c}").waits(0, 0, 0), B);
        SettledInstants x = Check.with("?b{?c{!a}}" + self);
        check.due("c is settled", x.waits(0, C, 0), B);
        check.due("a is settled", x.waits(0, A, 0), 0);
        check.due("b is settled and does not wait", x.waits(0, B, 1), 0);
        check.due("all are settled", x.waits(0, A | B | C, 0), 0);
    }

    @Sentence(in = "Description", words = "until a signal comes a second time; the ring is the set of that signal and all signals that came after it")
    static void rings(Check check) {
        check.due("a ring of one", Check.with("?a{!a}").ring(0, 0), A);
        check.due("a ring of one, h", Check.with("?h{!h}").ring(0, 0), 128);
        check.due("a ring of two", Check.with("?a{!b}|?b{!a}").ring(0, 0), A | B);
        check.due("a ring of all", Check.with("?h{!a}|?a{!b}|?b{!c}|?c{!d}|?d{!e}|?e{!f}|?f{!g}|?g{!h}").ring(0, 0), 255);
        check.due("a way of all to a ring of one", Check.with("?b{!a}|?c{!b}|?d{!c}|?e{!d}|?f{!e}|?g{!f}|?h{!g}|?h{!h}").ring(0, 0), 128);
        check.due("a way of all to a ring of two", Check.with("?b{!a}|?c{!b}|?d{!c}|?e{!d}|?f{!e}|?g{!f}|?h{!g}|?g{!h}").ring(0, 0), 192);
        check.due("a way to a ring", Check.with("?c{!a}|?b{!c}|?c{!b}").ring(0, 0), B | C);
        check.due("the lowest is gone to", Check.with("?b{?c{!a}}|?a{!b}|?a{!c}").ring(0, 0), A | B);
        check.due("it begins with the lowest", Check.with("?a{!a}|?b{!b}").ring(0, 0), A);
        check.due("it begins with the lowest that is unsettled", Check.with("?a{!a}|?b{!b}").ring(0, A), B);
    }

    @Sentence(in = "Description", words = "It is empty if one of the signals on this way waits for none")
    static void emptyRings(Check check) {
        check.due("the first waits for none", Check.with("$h{?h{!a};!h}").ring(0, 0), 0);
        check.due("a later one waits for none", Check.with("?b{!a}|$h{?h{!b};!h}").ring(0, 0), 0);
        check.due("the last of eight waits for none",
            Check.with("?b{!a}|?c{!b}|?d{!c}|?e{!d}|?f{!e}|?g{!f}|?h{!g}|$a{?a{!h};!a}").ring(0, 0), 0);
        check.due("one that is not on the way", Check.with("?a{!a}|$h{?h{!b};!h}").ring(0, 0), A);
        check.due("a is settled, a local signal is not", Check.with("$h{!a;?h{!a};!h}").ring(0, 0), NONE);
    }
}

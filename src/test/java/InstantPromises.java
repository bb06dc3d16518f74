/** Promises 6 to 13: instant, undo, restart, state, would, found, waits, ring. */
public final class InstantPromises {
    private static final int NONE = -1, UNKNOWN = -1000001, OUTSIDE = -1000002, NOT = -1000003;
    private static final int START = 1048576;
    private static final Check CHECK = new Check();

    public static void main(String[] args) {
        instant();
        awaitsAndSequences();
        choices();
        exits();
        loops();
        aborts();
        locals();
        rejections();
        undo();
        restart();
        state();
        would();
        found();
        foundInParts();
        foundUncertain();
        waits();
        ring();
        CHECK.end("InstantPromises");
    }

    private static void due(String call, int got, int want) {
        CHECK.due(call, got, want);
    }

    /** The instants of a new program: signals from outside, signals present, next state, and so on. */
    private static void course(String text, int... triples) {
        SettledInstants x = Check.with(text);
        for (int k = 0; k + 2 < triples.length; k += 3) {
            due(text + ": instant " + k / 3, x.instant(0, triples[k]), triples[k + 1]);
            due(text + ": state " + k / 3, x.state(0), triples[k + 2]);
        }
    }

    private static void instant() {
        SettledInstants x = Check.with("!a;.;!b", "!c");
        due("instant(2, 0)", x.instant(2, 0), UNKNOWN);
        due("instant(-1, 0)", x.instant(-1, 0), UNKNOWN);
        due("instant(2, 256)", x.instant(2, 256), UNKNOWN);
        due("instant(0, 256)", x.instant(0, 256), OUTSIDE);
        due("instant(0, -1)", x.instant(0, -1), OUTSIDE);
        due("refused instants change nothing", x.state(0), START);
        due("instant(0, 255)", x.instant(0, 255), 255);
        due("instant(0, 4)", x.instant(0, 4), 6);
        due("ended: instant(0, 129)", x.instant(0, 129), 129);
        due("ended: state", x.state(0), 0);
        due("place 1 has its own state", x.state(1), START);
        due("instant(1, 0)", x.instant(1, 0), 4);
        due("ended instants can be undone, too", x.count(0, 3), 3);
    }

    private static void awaitsAndSequences() {
        course("&a;!b", 1, 1, 1, 2, 2, 1, 1, 3, 0);
        course(".;.;!c", 0, 0, 1, 0, 0, 2, 0, 4, 0);
        course("(&a|&b);!c", 0, 0, 3, 1, 1, 2, 1, 1, 2, 2, 6, 0);
        course("&a;&a;!b", 0, 0, 1, 1, 1, 2, 1, 3, 0);
        course("0;0|0", 0, 0, 0);
    }

    private static void choices() {
        course("?a{!b}{!c}", 1, 3, 0);
        course("?a{!b}{!c}", 0, 4, 0);
        course("?a{.;!b};!c", 0, 4, 0);
        course("?a{.;!b}{.;!c};!d", 1, 1, 1, 0, 10, 0);
        course("?a{.;!b}{.;!c};!d", 0, 0, 2, 1, 13, 0);
    }

    private static void exits() {
        course("^{.;!a|x0};!b", 0, 2, 0);
        course("^{^{.|x1;!c};!a};!b", 0, 2, 0);
        course("^{^{.|x0;!c};!a};!b", 0, 3, 0);
        course("^{^{x0|x1};!a};!b", 0, 2, 0);
        course("^{.;x0|*{!a;.}};!b", 0, 1, 3, 0, 3, 0);
        course("^{^{.|x1};.};&b", 0, 0, 4);
        course("^{^{.|x0};.};&b", 0, 0, 2);
        course("^{^{^{^{^{.|x4};.};.};.};.};.", 0, 0, 32);
        course("^{^{^{^{^{.|x2};.};.};.};.};.", 0, 0, 8);
        course("^{^{^{^{^{x4};!a};!b};!c};!d};!e", 0, 16, 0);
        course("^{^{^{^{^{x2};!a};!b};!c};!d};!e", 0, 28, 0);
    }

    private static void loops() {
        course("*{!a;.;!b}", 0, 1, 1, 0, 3, 1, 0, 3, 1);
        course("*{.;!a;.}", 0, 0, 1, 0, 1, 2, 0, 0, 1);
        course("*{*{.;!a}|.}", 0, 0, 3, 0, 1, 1, 0, 1, 1);
        // the await of the first time does not count when the block is begun anew and does not reach it
        course("*{~a{?b{&c}{.}}}", 2, 2, 1, 1, 1, 2);
        course("*{^{.;x0|&b}}", 0, 0, 3, 0, 0, 3);
    }

    private static void aborts() {
        course("@a{.;!b;.};!c", 1, 1, 1, 1, 5, 0);
        course("@a{.;!b;.};!c", 0, 0, 1, 0, 2, 2, 1, 5, 0);
        course("~a{.;!b;.};!c", 1, 1, 1, 1, 7, 0);
        course("~a{.;!b;.};!c", 1, 1, 1, 0, 2, 2, 0, 4, 0);
        course("^{~a{.;x0};!b};!c", 0, 0, 1, 1, 5, 0);
        course("^{@a{.;x0};.};&b", 0, 0, 1, 1, 1, 2);
        course("^{~a{.;x0};.};&b", 0, 0, 1, 1, 1, 4);
        course("@a{.;$b{?b{!b}}};.", 0, 0, 1, 1, 1, 2);
        course("~a{.;$b{?b{!b}}};.", 0, 0, 1, 1, NOT, 1);
        course("@a{@b{.;.}|.};!c", 0, 0, 5, 2, 6, 0);
        course("@a{&c};!d|.;!a", 0, 0, 3, 0, 9, 0);
    }

    private static void locals() {
        course("$a{!a;?a{!b}}", 0, 2, 0);
        course("$a{!a;?a{!b}{!c}}", 1, 3, 0);
        course("$a{?a{!b}{!c}}", 1, 5, 0);
        course("!a;$a{?a{!b}{!c}};?a{!d}", 0, 13, 0);
        course("*{$h{?h{!a}{!b}|.;!h}}", 0, 2, 1, 0, 2, 1);
        course("$a{$a{!a};?a{!b}{!c}}", 0, 4, 0);
        course("$a{.;!a|&a;!b}", 0, 0, 3, 1, 3, 0);
        course("$a{$b{?a{!b}|?b{!c}|!a}}", 0, 4, 0);
        course("$a{!a;?a{.}{.}}", 0, 0, 1);
        course("$a{?a{.}{.}}", 1, 1, 2);
        course("$a{!a;?b{.}{.}}", 2, 2, 1);
        course("$a{?b{.}{.}}", 2, 2, 1);
        course("$a{$b{!b;?b{!a}};?a{.}{.}}", 0, 0, 1);
    }

    private static void rejections() {
        SettledInstants x = Check.with(".;?a{!b}|.;?b{!a}");
        due("the first instant", x.instant(0, 0), 0);
        due("rejected", x.instant(0, 0), NOT);
        due("a rejected instant changes no state", x.state(0), 3);
        due("a rejected instant cannot be undone", x.count(0, 3), 1);
        due("settled from outside", x.instant(0, 2), 3);
        x = Check.with("$a{?a{!a}}");
        due("a local signal is unsettled", x.instant(0, 0), NOT);
        due("a local signal is unsettled, whatever comes from outside", x.instant(0, 255), NOT);
        x = Check.with("?b{$a{?a{!a}}}");
        due("the local signal is not executed", x.instant(0, 0), 0);
        x = Check.with("!b;$a{?a{!a}};!c|^{x0;$a{?a{!a}}}");
        due("one local signal is executed", x.instant(0, 0), NOT);
        x = Check.with("$a{?a{!a}}|.", ".|$a{?a{!a}}");
        due("the left side is unsettled", x.instant(0, 0), NOT);
        due("the right side is unsettled", x.instant(1, 0), NOT);
        x = Check.with("^{x0;$a{?a{!a}}}");
        due("behind an exit no local signal is executed", x.instant(0, 0), 0);
        // not certainly executed, so that the local signal stays unknown and b with it
        x = Check.with("?a{$c{!c;?c{!b}{!a}}}");
        due("a and b wait", x.would(0, 0, 1), 3);
    }

    private static void undo() {
        SettledInstants x = Check.with("*{.;.;.}", "0");
        due("undo(2)", x.undo(2), UNKNOWN);
        due("undo(-1)", x.undo(-1), UNKNOWN);
        due("nothing to undo", x.undo(0), NOT);
        for (int k = 0; k < 25; k++) {
            x.instant(0, 0);
        }
        due("at most 20", x.count(0, 3), 20);
        due("state after 25", x.state(0), 1);
        for (int k = 19; k >= 0; k--) {
            due("undo to " + k, x.undo(0), k);
        }
        due("state after 5", x.state(0), 2);
        due("older ones are forgotten", x.undo(0), NOT);
        due("the state stays", x.state(0), 2);
        due("after undoing", x.instant(0, 0), 0);
        due("the state goes on", x.state(0), 4);
        due("undo once", x.undo(0), 0);
        x.instant(1, 0);
        due("back to START", x.undo(1), 0);
        due("START", x.state(1), START);
        x = Check.with("*{" + Check.repeat(".;", 18) + ".}");
        for (int k = 0; k < 30; k++) {
            x.instant(0, 0);
        }
        for (int k = 28; k >= 9; k--) {
            x.undo(0);
            due("the state after " + (k + 1), x.state(0), 1 << k % 19);
        }
    }

    private static void restart() {
        SettledInstants x = Check.with(".;.");
        due("restart(1)", x.restart(1), UNKNOWN);
        due("restart(2)", x.restart(2), UNKNOWN);
        due("restart in START", x.restart(0), START);
        x.instant(0, 0);
        x.instant(0, 0);
        due("restart(0)", x.restart(0), 2);
        due("state", x.state(0), START);
        due("nothing can be undone", x.undo(0), NOT);
    }

    private static void state() {
        SettledInstants x = Check.with(".|.");
        due("state(1)", x.state(1), UNKNOWN);
        due("state(2)", x.state(2), UNKNOWN);
        due("state(-1)", x.state(-1), UNKNOWN);
        due("START", x.state(0), START);
        x.instant(0, 0);
        due("both", x.state(0), 3);
        x.instant(0, 0);
        due("ENDED", x.state(0), 0);
        x = Check.with(".;.;.;.;.;.;.;.;.;.;.;.;.;.;.;.;.;.;.;.");
        for (int k = 0; k < 20; k++) {
            x.instant(0, 0);
            due("pause point " + k, x.state(0), 1 << k);
        }
    }

    private static void would() {
        SettledInstants x = Check.with("?a{!b}{.};!c");
        due("would(1, 0, 0)", x.would(1, 0, 0), UNKNOWN);
        due("would(1, 256, 5)", x.would(1, 256, 5), UNKNOWN);
        due("would(0, 256, 0)", x.would(0, 256, 0), OUTSIDE);
        due("would(0, -1, 0)", x.would(0, -1, 0), OUTSIDE);
        due("would(0, 0, 5)", x.would(0, 0, 5), OUTSIDE);
        due("would(0, 0, -1)", x.would(0, 0, -1), OUTSIDE);
        due("present", x.would(0, 1, 0), 7);
        due("unsettled", x.would(0, 1, 1), 0);
        due("code 0", x.would(0, 1, 2), 0);
        due("next ENDED", x.would(0, 1, 3), 0);
        due("code 1", x.would(0, 0, 2), 1);
        due("next", x.would(0, 0, 3), 1);
        due("nothing is executed", x.state(0), START);
        due("nothing to undo", x.count(0, 3), 0);
        x.instant(0, 1);
        due("ENDED: present", x.would(0, 9, 0), 9);
        due("ENDED: unsettled", x.would(0, 9, 1), 0);
        due("ENDED: code", x.would(0, 9, 2), 0);
        due("ENDED: next", x.would(0, 9, 3), 0);
        due("ENDED: rounds", x.would(0, 9, 4), 0);
        x = Check.with("?a{0}{!a}");
        due("rejected: present", x.would(0, 0, 0), NOT);
        due("rejected: unsettled", x.would(0, 0, 1), 1);
        due("rejected: code", x.would(0, 0, 2), NOT);
        due("rejected: next", x.would(0, 0, 3), NOT);
        due("rejected: rounds", x.would(0, 0, 4), 2);
        due("rejected: what is out of range", x.would(0, 0, 5), OUTSIDE);
        x = Check.with("$a{?a{0}{!a}}");
        due("only a local signal", x.would(0, 0, 1), 256);
        due("only a local signal: next", x.would(0, 0, 3), NOT);
        due("only a local signal: rounds", x.would(0, 0, 4), 2);
        x = Check.with(".;.", "0");
        x.instant(1, 0);
        x.instant(0, 0);
        due("another next state", x.would(0, 0, 3), 2);
        due("another next state: code", x.would(0, 0, 2), 1);
        due("ENDED: code, after another place", x.would(1, 0, 2), 0);
        x.would(0, 0, 3);
        due("ENDED: next, after another place", x.would(1, 0, 3), 0);
        x = Check.with("?a{!a}", "0");
        x.instant(1, 0);
        due("rejected", x.would(0, 0, 1), 1);
        due("ENDED: unsettled, after a rejected one", x.would(1, 0, 1), 0);
        x = Check.with("$h{?h{!h}}|?a{!a}");
        due("a local signal and another one", x.would(0, 0, 1), 1);
        rounds();
    }

    private static void rounds() {
        due("one round", Check.with("0").would(0, 255, 4), 1);
        due("two rounds", Check.with("0").would(0, 0, 4), 2);
        SettledInstants x = Check.with("!a|?a{!b}|?b{!c}|?c{!d}|?d{!e}|?e{!f}|?f{!g}|?g{!h}");
        due("a round a signal and the last one", x.would(0, 0, 4), 9);
        due("all are present", x.would(0, 0, 0), 255);
        x = Check.with("?a{!b}{!c}|?b{!d}|?c{!e}{!f}");
        due("a, then b and c, then d and f", x.would(0, 0, 4), 4);
        due("c and e", x.would(0, 0, 0), 20);
    }

    private static void found() {
        SettledInstants x = Check.with("?a{!b}{.}", "0");
        due("found(2, ..)", x.found(2, 0, 0, 0), UNKNOWN);
        due("found(2, 256, ..)", x.found(2, 256, 0, 0), UNKNOWN);
        due("there above", x.found(0, 256, 0, 0), OUTSIDE);
        due("there below", x.found(0, -1, 0, 0), OUTSIDE);
        due("notThere above", x.found(0, 0, 256, 0), OUTSIDE);
        due("notThere below", x.found(0, 0, -1, 0), OUTSIDE);
        due("what above", x.found(0, 0, 0, 4), OUTSIDE);
        due("what below", x.found(0, 0, 0, -1), OUTSIDE);
        due("a signal in both", x.found(0, 6, 12, 0), OUTSIDE);
        due("unknown: must emit", x.found(0, 0, 0, 0), 0);
        due("unknown: can emit", x.found(0, 0, 0, 1), 2);
        due("unknown: must complete", x.found(0, 0, 0, 2), 0);
        due("unknown: can complete", x.found(0, 0, 0, 3), 3);
        due("present: must emit", x.found(0, 1, 0, 0), 2);
        due("present: must complete", x.found(0, 1, 0, 2), 1);
        due("absent: can emit", x.found(0, 0, 1, 1), 0);
        due("absent: must complete", x.found(0, 0, 1, 2), 2);
        due("absent: can complete", x.found(0, 254, 1, 3), 2);
        due("nothing is executed", x.state(0), START);
        x.instant(1, 0);
        due("ENDED", x.found(1, 0, 0, 0), NOT);
        due("ENDED, and out of range", x.found(1, 1, 1, 0), OUTSIDE);
    }

    /** All four results at once, in the state behind one instant without signals. */
    private static void results(String text, int there, int notThere, int... want) {
        SettledInstants x = Check.with(text);
        x.instant(0, 0);
        for (int what = 0; what < 4; what++) {
            due(text + ": found " + what, x.found(0, there, notThere, what), want[what]);
        }
    }

    private static void foundInParts() {
        results("&a;!b", 0, 0, 0, 2, 0, 3);
        results("&a;!b", 1, 0, 2, 2, 1, 1);
        results("&a;!b", 0, 1, 0, 0, 2, 2);
        results("@a{.;!b;.}", 0, 0, 0, 2, 0, 3);
        results("@a{.;!b;.}", 1, 0, 0, 0, 1, 1);
        results("@a{.;!b;.}", 0, 1, 2, 2, 2, 2);
        results("~a{.;!b;.}", 0, 0, 2, 2, 0, 3);
        results("~a{.;!b;.}", 1, 0, 2, 2, 1, 1);
        results("~a{.;!b;.}", 0, 1, 2, 2, 2, 2);
        results("~a{.;!b}", 0, 0, 2, 2, 1, 1);
        results("*{&a;!b}", 0, 0, 0, 2, 0, 2);
        results("*{&a;!b}", 1, 0, 2, 2, 2, 2);
        results("&a|&b", 1, 0, 0, 0, 0, 3);
        results("&a|&b", 1, 2, 0, 0, 2, 2);
        results("^{&a;x0|&b;!c|.};!d", 0, 0, 0, 12, 0, 3);
        results("^{&a;x0|&b;!c|.};!d", 1, 2, 8, 8, 1, 1);
        results(".;(!a|!b;.)", 0, 0, 3, 3, 2, 2);
        results(".;$a{!a;?a{!b}{!c}}", 0, 0, 2, 2, 1, 1);
        results(".;?d{$a{!a;?a{!b}{!c}}}", 0, 0, 0, 6, 0, 1);
        results(".;?d{$a{!a;?a{!b}{!c}}}", 8, 0, 2, 2, 1, 1);
        results("&d;$a{!a;?a{!b}{!c}}", 0, 0, 0, 6, 0, 3);
        results("@d{.;$a{!a;?a{!b}{!c}}}", 0, 0, 0, 6, 0, 1);
        results("@d{.;$a{?a{!b}{!c}}}", 0, 0, 0, 4, 0, 1);
        // what is known of the signal outside does not matter inside
        results(".;$a{?a{!b}{!c}}", 1, 0, 4, 4, 1, 1);
        results(".;$a{!a}", 0, 0, 0, 0, 1, 1);
    }

    /** A local signal in all places of a statement that is not certainly executed: b and c stay possible. */
    private static void foundUncertain() {
        String local = "$a{!a;?a{!b}{!c}}";
        String[] uncertain = {
            local, "0;" + local, local + ";0", "0|" + local, local + "|0", "^{" + local + "}", "^{*{" + local + ";.}}",
            "@e{" + local + "}", "~e{" + local + "}", "?f{" + local + "}", "?g{0}{" + local + "}", "$h{" + local + "}",
            "$h{!h;" + local + "}", "(0;" + local + ");0"};
        for (String part : uncertain) {
            for (String text : new String[] {"?d{" + part + "}", "?d{0}{" + part + "}", "0;?d{" + part + "}{" + part + "}"}) {
                SettledInstants x = Check.with(text);
                due(text + ": must", x.found(0, 32, 64, 0), 0);
                due(text + ": can", x.found(0, 32, 64, 1), 6);
            }
            for (String text : new String[] {"&d;(" + part + ")", "*{&d;(" + part + ")}", "@d{.;(" + part + ")}"}) {
                SettledInstants x = Check.with(text);
                x.instant(0, 0);
                due(text + ": must", x.found(0, 32, 64, 0), 0);
                due(text + ": can", x.found(0, 32, 64, 1), 6);
            }
        }
        resumingUncertain();
    }

    /** As above, but what is not certainly executed resumes. */
    private static void resumingUncertain() {
        String local = ".;$a{!a;?a{!b}{!c}}";
        String[] uncertain = {
            local, local + ";0", "0;(" + local + ")", "0|" + local, local + "|0", "^{" + local + "}", "*{" + local + "}",
            "*{$a{!a;?a{!b}{!c}};.}", "@e{" + local + "}", "~e{" + local + "}", "?f{0}{" + local + "}", "$h{" + local + "}", "$h{.;!h}|" + local};
        for (String part : uncertain) {
            String text = "@d{" + part + "}";
            SettledInstants x = Check.with(text);
            x.instant(0, 0);
            due(text + ": must", x.found(0, 0, 16, 0), 0);
            due(text + ": can", x.found(0, 0, 16, 1), 6);
            due(text + ": must if it is certain", x.found(0, 0, 24, 0), 2);
            due(text + ": can if it is certain", x.found(0, 0, 24, 1), 2);
        }
    }

    private static void waits() {
        SettledInstants x = Check.with("?a{!b}{!c}|?b{!a}|?d{!d}|?e{!e}{!e}");
        due("waits(1, 0, 0)", x.waits(1, 0, 0), UNKNOWN);
        due("waits(1, 256, 8)", x.waits(1, 256, 8), UNKNOWN);
        due("outside above", x.waits(0, 256, 0), OUTSIDE);
        due("outside below", x.waits(0, -1, 0), OUTSIDE);
        due("signal above", x.waits(0, 0, 8), OUTSIDE);
        due("signal below", x.waits(0, 0, -1), OUTSIDE);
        due("a waits for b", x.waits(0, 0, 0), 2);
        due("b waits for a", x.waits(0, 0, 1), 1);
        due("c waits for a", x.waits(0, 0, 2), 1);
        due("d waits for itself", x.waits(0, 0, 3), 8);
        due("e waits for itself", x.waits(0, 0, 4), 16);
        due("f is settled", x.waits(0, 0, 5), 0);
        due("from outside a is settled", x.waits(0, 1, 0), 0);
        due("d still waits", x.waits(0, 1, 3), 8);
        x = Check.with("?a{?b{!c}}|?b{!a}|?c{!b}");
        due("c waits for a and b: absence suffices", x.waits(0, 0, 2), 3);
        x = Check.with("$h{?h{!a};!h}");
        due("a waits for a local signal only", x.waits(0, 0, 0), 0);
        x = Check.with("0");
        x.instant(0, 0);
        due("ENDED", x.waits(0, 0, 0), 0);
    }

    private static void ring() {
        SettledInstants x = Check.with("?b{!a}|?c{!b}|?d{!c}|?b{!d}");
        due("ring(1, 0)", x.ring(1, 0), UNKNOWN);
        due("ring(1, 256)", x.ring(1, 256), UNKNOWN);
        due("outside above", x.ring(0, 256), OUTSIDE);
        due("outside below", x.ring(0, -1), OUTSIDE);
        due("a leads to the ring b c d", x.ring(0, 0), 14);
        due("without a", x.ring(0, 1), 14);
        due("settled", x.ring(0, 2), NONE);
        due("no state changes", x.state(0), START);
        x = Check.with("?b{!a}|$h{?h{!b};!h}");
        due("a waits for b, which waits for none", x.ring(0, 0), 0);
        x = Check.with("?b{!a}|?b{!b}|?d{!c}|?c{!d}");
        due("only the ring that the lowest one leads to", x.ring(0, 0), 2);
        due("another ring from outside", x.ring(0, 3), 12);
        x = Check.with("?b{?c{!a}}|?a{!b}|?a{!c}");
        due("the lowest signal is taken", x.ring(0, 0), 3);
        x = Check.with("$a{?a{!a}}");
        due("only a local signal", x.ring(0, 0), NONE);
        x = Check.with("?h{!a}|?a{!b}|?b{!c}|?c{!d}|?d{!e}|?e{!f}|?f{!g}|?g{!h}");
        due("a ring of all signals", x.ring(0, 0), 255);
        due("ended: the instant", x.instant(0, 1), 255);
        due("ENDED", x.ring(0, 0), NONE);
    }
}

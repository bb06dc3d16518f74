import java.util.List;
import java.util.function.Supplier;

/** What the promises 1 to 13, 17 and 18 say beside the places of programs. */
final class PromiseBoundaries {
    private static final int NONE = -1, UNKNOWN = -1000001, OUTSIDE = -1000002, NOT = -1000003, FULL = -1000004;
    private static final int START = 1048576, ENDED = 0;
    private static final int LEAST = Integer.MIN_VALUE, MOST = Integer.MAX_VALUE;
    private static final int[] NO_SETS = {-1, 256, 257, -256, 512, LEAST, LEAST + 1, MOST};
    private static final List<Supplier<SettledInstants>> PASTS = List.of(Refusal::busy, Refusal::full);
    /** A local signal that cannot be settled. */
    private static final String LOOSE = "$h{?h{!h}}";

    private static void refused(Check check, String name, Refusal.Call call, int want) {
        for (Supplier<SettledInstants> past : PASTS) new Refusal(check, past).due(name, call, want);
    }

    // ---- 1: a new object

    @Sentence(in = "Promise 1", words = "Creates an object without programs, with an empty text")
    static void aNewObject(Check check) {
        check.due("erase()", new SettledInstants().erase(), 0);
        check.due("write(46)", new SettledInstants().write('.'), 1);
        check.due("program(0)", new SettledInstants().program(0), -100);
        check.due("fault()", new SettledInstants().fault(), 0);
        SettledInstants x = new SettledInstants();
        for (int place = 0; place < 2; place++) {
            check.due("state", x.state(place), UNKNOWN);
            check.due("instant", x.instant(place, 0), UNKNOWN);
            check.due("count of the text", x.count(place, 4), UNKNOWN);
            check.due("node", x.node(place, 0, 0), UNKNOWN);
        }
        check.due("part", x.part(1), UNKNOWN);
        SettledInstants other = Check.with("!a", "!b");
        other.write('.');
        check.due("it shares no program", x.state(0), UNKNOWN);
        check.due("it shares no text", x.erase(), 0);
    }

    // ---- 2: write

    @Sentence(in = "Promise 2", words = "Appends a byte to the text")
    static void writeAppends(Check check) {
        SettledInstants x = new SettledInstants();
        x.write('!');
        x.write('g');
        check.due("a text of two bytes", x.program(0), 0);
        check.due("in their order", x.node(0, 0, 1), 6);
        Check.write(x, ";.");
        check.due("a text begins anew behind program", x.program(0), -100);
    }

    @Sentence(in = "Promise 2", words = "`letter`: the byte, 0 to 255")
    static void writeTakesAllBytes(Check check) {
        for (int letter = 0; letter < 256; letter++) {
            SettledInstants x = new SettledInstants();
            check.due("write(" + letter + ")", x.write(letter), 1);
            check.due("erase() behind it", x.erase(), 1);
        }
        check.due("the byte is kept as it is", Check.with("!" + (char) 104).node(0, 0, 1), 7);
        check.text("." + (char) 255, -101, 1);
        check.text("." + (char) 128, -101, 1);
    }

    @Sentence(in = "Promise 2", words = "Returns the length of the text")
    static void writeReturnsTheLength(Check check) {
        SettledInstants x = new SettledInstants();
        for (int length = 1; length <= 120; length++) check.due("write", x.write(' '), length);
        x.erase();
        check.due("behind erase()", x.write(' '), 1);
        x.program(0);
        check.due("behind program()", x.write(' '), 1);
        x.program(2);
        check.due("behind program() of no place", x.write(' '), 2);
    }

    @Sentence(in = "Promise 2", words = "OUTSIDE if letter is out of range")
    static void writeOutside(Check check) {
        for (int letter : new int[] {-1, 256, LEAST, MOST, -256, 32 + 256, 46 - 256}) {
            refused(check, "write(" + letter + ")", x -> x.write(letter), OUTSIDE);
            new Refusal(check, Refusal::ofNew).due("write(" + letter + ")", x -> x.write(letter), OUTSIDE);
        }
    }

    @Sentence(in = "Promise 2", words = "FULL if the text has 120 bytes")
    static void writeFull(Check check) {
        SettledInstants x = new SettledInstants();
        Check.write(x, "!b" + Check.repeat(" ", 117));
        check.due("the 120th byte", x.write(' '), 120);
        check.due("the 121st byte", x.write(';'), FULL);
        check.due("the 122nd byte", x.write('.'), FULL);
        check.due("the text is what it was", x.program(0), 0);
        check.due("its statements", x.count(0, 0), 1);
        check.due("a byte behind it", x.write('.'), 1);
        new Refusal(check, Refusal::full).due("write(46)", y -> y.write('.'), FULL);
    }

    // ---- 3: erase

    @Sentence(in = "Promise 3", words = "Empties the text")
    static void eraseEmpties(Check check) {
        SettledInstants x = Check.with("!a");
        Check.write(x, "!b;");
        x.erase();
        check.due("no text", x.count(0, 4), 0);
        Check.write(x, ".");
        check.due("what was erased is not read", x.program(0), 1);
        SettledInstants full = Refusal.full();
        full.erase();
        check.due("a full text can be written again", full.write('.'), 1);
        check.due("the programs stay", full.state(1), ENDED);
        check.due("the instants stay", full.count(0, 3), 20);
        SettledInstants faulty = Refusal.withText();
        faulty.erase();
        check.due("the fault stays", faulty.fault(), 5);
    }

    @Sentence(in = "Promise 3", words = "Returns the length that it had")
    static void eraseReturnsTheLength(Check check) {
        SettledInstants x = new SettledInstants();
        check.due("an empty text", x.erase(), 0);
        x.write(' ');
        check.due("one byte", x.erase(), 1);
        check.due("an erased text", x.erase(), 0);
        Check.write(x, Check.repeat("0", 121));
        check.due("a full text", x.erase(), 120);
        Check.write(x, "!");
        x.program(0);
        check.due("a text that was read", x.erase(), 0);
    }

    // ---- 4: program

    @Sentence(in = "Promise 4", words = "Reads the text as a program and empties it, also if it has a fault")
    static void programEmptiesTheText(Check check) {
        for (String text : new String[] {"", ".", "x0", Check.repeat("(", 13), "*{0}", Check.repeat(".;", 60), Check.repeat(" ", 120)}) {
            SettledInstants x = new SettledInstants();
            Check.write(x, text);
            x.program(0);
            check.due("the length behind \"" + text + "\"", x.erase(), 0);
            check.due("the next text", Check.read(x, 0, "."), 1);
        }
    }

    @Sentence(in = "Promise 4", words = "If it has no fault, the program replaces the one at the place")
    static void programReplaces(Check check) {
        SettledInstants x = Check.with("!a;.;.", "!b;.");
        check.due("a smaller one", Check.read(x, 0, "!c"), 0);
        check.due("its statements", x.count(0, 0), 1);
        check.due("no statement of the old one", x.node(0, 1, 0), UNKNOWN);
        check.due("it is executed", x.instant(0, 0), 4);
        check.due("the other place", x.instant(1, 0), 2);
        check.due("the largest one", Check.read(x, 0, "^{" + Check.repeat("0;", 29) + "!h}"), 0);
        check.due("its statements", x.count(0, 0), 60);
        check.due("it is executed", x.instant(0, 0), 128);
        check.due("at the other place, too", Check.read(x, 1, "!d"), 0);
        check.due("it is executed", x.instant(1, 0), 8);
        check.due("the first place", x.count(0, 0), 60);
        nothingOfOlderPrograms(check);
    }

    /** One object reads many programs, in which each number has many kinds of statements. */
    private static void nothingOfOlderPrograms(Check check) {
        String[] texts = {
            ".;.;.;.;.;.", "0;0;0", "&h|&g|&f", "!a;!b", "?a{.}{.}", "?a{0}", "^{^{x1|.}};.", "0", "*{@b{~c{$d{.}}}}", "x0", "!c|!d|!e", ".", ")", "0|0"};
        SettledInstants x = new SettledInstants();
        for (int k = 0; k < 2 * texts.length; k++) {
            String text = texts[k * 5 % texts.length];
            SettledInstants fresh = new SettledInstants();
            int answer = Check.read(fresh, k & 1, text);
            check.due("program of " + text, Check.read(x, k & 1, text), answer);
            for (int node = 0; node < fresh.count(k & 1, 0); node++) {
                for (int what = 1; what < 6; what++) {
                    check.due("node " + node + " of " + text + ", " + what, x.node(k & 1, node, what), fresh.node(k & 1, node, what));
                }
            }
        }
    }

    @Sentence(in = "Promise 4", words = "its state is START, and nothing can be undone")
    static void programBeginsWithStart(Check check) {
        SettledInstants x = Refusal.full();
        check.due("instants that could be undone", x.count(0, 3), 20);
        check.due("the same text again", Check.read(x, 0, "*{.;.;.}"), 3);
        check.due("state", x.state(0), START);
        check.due("instants that can be undone", x.count(0, 3), 0);
        check.due("undo", x.undo(0), NOT);
        check.due("the state of the other place", x.state(1), ENDED);
        check.due("the instants of the other place", x.count(1, 3), 1);
    }

    @Sentence(in = "Promise 4", words = "`place`: the place, 0 or 1")
    static void placesOfProgram(Check check) {
        for (int place = 0; place < 2; place++) {
            SettledInstants x = new SettledInstants();
            check.due("program(" + place + ")", Check.read(x, place, ".;."), 2);
            check.due("state(" + place + ")", x.state(place), START);
            check.due("the other state", x.state(1 - place), UNKNOWN);
        }
        for (int place : new int[] {-1, 2, LEAST, MOST}) {
            check.due("program(" + place + ")", Check.read(new SettledInstants(), place, "."), UNKNOWN);
        }
    }

    @Sentence(in = "Promise 4", words = "Returns the number of pause points")
    static void programReturnsThePausePoints(Check check) {
        for (int points = 1; points <= 20; points++) check.text(Check.repeat(".|", points) + "0", points, 0);
        check.text("0", 0, 0);
        check.text("&a;.|&b", 3, 0);
    }

    @Sentence(in = "Promise 4", words = "-100 minus the place of the fault if there is one (then no program changes)")
    static void programReturnsThePlaceOfAFault(Check check) {
        check.text("", -100, 1);
        check.text("x0", -101, 2);
        check.text(Check.repeat(" ", 119) + ";", -219, 1);
        check.text(Check.repeat(" ", 120), -220, 1);
        String[] texts = {"", ")", "x0", Check.repeat(".;", 21), Check.repeat("(", 13), "*{0}", "!h;*{!h}"};
        int[] answers = {-100, -100, -101, -140, -112, -100, -103};
        for (int k = 0; k < texts.length; k++) {
            for (int place = 0; place < 2; place++) {
                SettledInstants x = Check.with("!a;.;!b", "&c|.");
                x.instant(0, 0);
                x.instant(1, 0);
                check.due("program of \"" + texts[k] + "\"", Check.read(x, place, texts[k]), answers[k]);
                check.due("statements at 0", x.count(0, 0), 5);
                check.due("statements at 1", x.count(1, 0), 3);
                check.due("state at 0", x.state(0), 1);
                check.due("state at 1", x.state(1), 3);
                check.due("instants at 0", x.count(0, 3), 1);
                check.due("instants at 1", x.count(1, 3), 1);
                check.due("present at 0", x.instant(0, 0), 2);
                check.due("present at 1", x.instant(1, 4), 4);
            }
        }
    }

    @Sentence(in = "Promise 4", words = "UNKNOWN if there is no such place (then the text stays)")
    static void programUnknown(Check check) {
        for (int place : new int[] {-1, 2, LEAST, MOST}) {
            for (Supplier<SettledInstants> past : List.<Supplier<SettledInstants>>of(
                    Refusal::ofNew, Refusal::withText, Refusal::busy, Refusal::full)) {
                new Refusal(check, past).due("program(" + place + ")", x -> x.program(place), UNKNOWN);
            }
            SettledInstants x = new SettledInstants();
            Check.write(x, "!b;");
            x.program(place);
            check.due("the text goes on", x.write('.'), 4);
            check.due("the text", x.program(0), 1);
        }
    }

    // ---- 5: fault

    @Sentence(in = "Promise 5", words = "Returns the fault of the text that was read last by program()")
    static void faultOfTheLastText(Check check) {
        SettledInstants x = new SettledInstants();
        Check.read(x, 0, "x0");
        check.due("a fault", x.fault(), 2);
        check.due("again", x.fault(), 2);
        Check.read(x, 1, ".");
        check.due("none, at another place", x.fault(), 0);
        Check.read(x, 0, "*{0}");
        Check.write(x, "!");
        check.due("a text that is not read yet", x.fault(), 5);
        x.program(2);
        check.due("a text that no place was read for", x.fault(), 5);
        x.erase();
        check.due("an erased text", x.fault(), 5);
        x.instant(1, 256);
        check.due("another error", x.fault(), 5);
        x.program(0);
        check.due("the empty text", x.fault(), 1);
    }

    @Sentence(in = "Promise 5", words = "Returns the number of the fault, 1 to 5")
    static void faultsFrom1To5(Check check) {
        check.text("!", -101, 1);
        check.text("x0", -101, 2);
        check.text(Check.repeat(".;", 21), -140, 3);
        check.text(Check.repeat("(", 13), -112, 4);
        check.text("*{0}", -100, 5);
    }

    @Sentence(in = "Promise 5", words = "0 if it had none or no text has been read")
    static void noFault(Check check) {
        SettledInstants x = new SettledInstants();
        check.due("a new object", x.fault(), 0);
        Check.write(x, ")");
        check.due("a text that was not read", x.fault(), 0);
        x.program(-1);
        check.due("a text that no place was read for", x.fault(), 0);
        x.erase();
        Check.read(x, 0, "0");
        check.due("a sound text", x.fault(), 0);
        Check.read(x, 0, ")");
        Check.read(x, 0, "0");
        check.due("a sound text behind another", x.fault(), 0);
    }

    // ---- 6: instant

    @Sentence(in = "Promise 6", words = "Executes an instant")
    static void instantExecutes(Check check) {
        SettledInstants x = Check.with("!a;.;!b");
        check.due("from START", x.instant(0, 0), 1);
        check.due("state", x.state(0), 1);
        check.due("to ENDED", x.instant(0, 0), 2);
        check.due("state", x.state(0), ENDED);
        check.due("in ENDED", x.instant(0, 0), 0);
        check.due("instants", x.count(0, 3), 3);
    }

    @Sentence(in = "Promise 6", words = "`outside`: the signals from outside, 0 to 255")
    static void outsideOfInstant(Check check) {
        for (int outside = 0; outside < 256; outside++) {
            check.due("instant(0, " + outside + ")", Check.with("!a").instant(0, outside), outside | 1);
        }
    }

    @Sentence(in = "Promise 6", words = "Returns the signals that are present, as a set")
    static void instantReturnsThePresent(Check check) {
        check.due("none", Check.with("0").instant(0, 0), 0);
        check.due("all, emitted", Check.with("!a|!b|!c|!d|!e|!f|!g|!h").instant(0, 0), 255);
        check.due("all, from outside", Check.with("0").instant(0, 255), 255);
        check.due("some of both", Check.with("!b;?c{!d}").instant(0, 4), 14);
        check.due("no local signal", Check.with("$a{!a}").instant(0, 0), 0);
    }

    @Sentence(in = "Promise 6", words = "OUTSIDE if outside is out of range")
    static void instantOutside(Check check) {
        for (int outside : NO_SETS) {
            refused(check, "instant(0, " + outside + ")", x -> x.instant(0, outside), OUTSIDE);
            refused(check, "instant(1, " + outside + ")", x -> x.instant(1, outside), OUTSIDE);
        }
    }

    @Sentence(in = "Promise 6", words = "NOT if the instant is rejected")
    static void instantNot(Check check) {
        for (String text : new String[] {".;?a{!a}", ".;" + LOOSE, ".;!b;?a{0}{!a}"}) {
            Refusal refusal = new Refusal(check, () -> {
                SettledInstants x = Check.with(text, ".");
                x.instant(0, 0);
                Check.write(x, "!");
                return x;
            });
            refusal.due("an instant of " + text, x -> x.instant(0, 0), NOT);
        }
        SettledInstants x = Check.with("?a{!a}");
        check.due("rejected", x.instant(0, 254), NOT);
        check.due("not rejected", x.instant(0, 255), 255);
    }

    // ---- 7: undo

    @Sentence(in = "Promise 7", words = "Undoes the latest instant that was executed and not undone yet: the state is as before it")
    static void undoTheLatest(Check check) {
        SettledInstants x = Check.with(".;.;?a{!a}{.}");
        x.instant(0, 0);
        x.instant(0, 0);
        x.undo(0);
        check.due("the state before", x.state(0), 1);
        x.instant(0, 0);
        check.due("rejected", x.instant(0, 0), NOT);
        check.due("rejected instants are not undone", x.undo(0), 1);
        check.due("the state before", x.state(0), 1);
        check.due("the first one", x.undo(0), 0);
        check.due("the state before", x.state(0), START);
        x = Check.with("0");
        x.instant(0, 0);
        x.instant(0, 7);
        check.due("an instant in ENDED", x.undo(0), 1);
        check.due("the state before", x.state(0), ENDED);
        x.undo(0);
        check.due("the state before", x.state(0), START);
    }

    @Sentence(in = "Promise 7", words = "At most 20 instants can be undone")
    static void undoAtMost20(Check check) {
        for (int instants = 18; instants <= 23; instants++) {
            SettledInstants x = Check.with("*{" + Check.repeat(".;", 19) + ".}");
            for (int k = 0; k < instants; k++) x.instant(0, 0);
            int undone = Math.min(instants, 20);
            check.due("after " + instants, x.count(0, 3), undone);
            for (int k = 1; k <= undone; k++) {
                check.due("undo after " + instants, x.undo(0), undone - k);
                int before = instants - k;
                check.due("state after " + before, x.state(0), before == 0 ? START : 1 << (before - 1) % 20);
            }
            check.due("one more after " + instants, x.undo(0), NOT);
        }
    }

    @Sentence(in = "Promise 7", words = "older ones are forgotten")
    static void olderOnesAreForgotten(Check check) {
        SettledInstants x = Check.with("*{.;.;.;.;.;.;.}");
        for (int k = 0; k < 21; k++) x.instant(0, 0);
        for (int k = 0; k < 20; k++) x.undo(0);
        check.due("not back to START", x.state(0), 1);
        check.due("the first is forgotten", x.undo(0), NOT);
        // beyond the limit, in turns with undoing
        for (int k = 0; k < 45; k++) x.instant(0, 0);
        for (int k = 0; k < 15; k++) x.undo(0);
        check.due("undoable", x.count(0, 3), 5);
        for (int k = 0; k < 10; k++) x.instant(0, 0);
        check.due("undoable again", x.count(0, 3), 15);
        for (int k = 0; k < 10; k++) x.instant(0, 0);
        check.due("at the limit again", x.count(0, 3), 20);
        for (int before = 50; before > 30; before--) {
            x.undo(0);
            check.due("state after " + before, x.state(0), 1 << (before - 1) % 7);
        }
        check.due("the older ones are forgotten", x.undo(0), NOT);
    }

    @Sentence(in = "Promise 7", words = "Returns the number of instants that can still be undone")
    static void undoReturnsTheNumber(Check check) {
        SettledInstants x = Check.with("*{.}", "*{.}");
        for (int k = 0; k < 25; k++) x.instant(0, 0);
        x.instant(1, 0);
        for (int left = 19; left >= 0; left--) check.due("undo(0)", x.undo(0), left);
        check.due("the other place", x.undo(1), 0);
    }

    @Sentence(in = "Promise 7", words = "NOT if there is none")
    static void undoNot(Check check) {
        new Refusal(check, Refusal::busy).due("before the first instant", x -> x.undo(1), NOT);
        Supplier<SettledInstants> undone = () -> {
            SettledInstants x = Refusal.full();
            for (int k = 0; k < 20; k++) x.undo(0);
            return x;
        };
        new Refusal(check, undone).due("the 21st", x -> x.undo(0), NOT);
        Supplier<SettledInstants> restarted = () -> {
            SettledInstants x = Refusal.full();
            x.restart(0);
            return x;
        };
        new Refusal(check, restarted).due("after a restart", x -> x.undo(0), NOT);
    }

    // ---- 8: restart, 9: state

    @Sentence(in = "Promise 8", words = "Sets the state to START")
    static void restartSetsStart(Check check) {
        SettledInstants x = Check.with("!a;.;!b", "!c;.");
        x.instant(0, 0);
        x.instant(1, 0);
        x.restart(0);
        check.due("state", x.state(0), START);
        check.due("it starts again", x.instant(0, 0), 1);
        check.due("the other place", x.state(1), 1);
        x.instant(0, 0);
        x.restart(0);
        check.due("from ENDED", x.state(0), START);
    }

    @Sentence(in = "Promise 8", words = "Nothing can be undone then")
    static void restartForgets(Check check) {
        SettledInstants x = Refusal.full();
        x.restart(0);
        check.due("none of 20", x.count(0, 3), 0);
        check.due("undo", x.undo(0), NOT);
        check.due("the other place", x.count(1, 3), 1);
        x.instant(0, 0);
        check.due("one again", x.undo(0), 0);
        check.due("to START", x.state(0), START);
    }

    @Sentence(in = "Promise 8", words = "Returns the state that it was")
    static void restartReturnsTheState(Check check) {
        SettledInstants x = Check.with("." + Check.repeat("|.", 19));
        check.due("START", x.restart(0), START);
        x.instant(0, 0);
        check.due("all pause points", x.restart(0), 1048575);
        x.instant(0, 0);
        x.instant(0, 0);
        check.due("ENDED", x.restart(0), ENDED);
        check.due("START again", x.restart(0), START);
    }

    @Sentence(in = "Promise 9", words = "Returns the state of a program")
    static void statesOfAProgram(Check check) {
        SettledInstants x = Check.with(Check.repeat(".;", 19) + ".", "." + Check.repeat("|.", 19));
        check.due("START", x.state(0), START);
        for (int k = 0; k < 20; k++) {
            x.instant(0, 0);
            check.due("pause point " + k, x.state(0), 1 << k);
        }
        x.instant(0, 0);
        check.due("ENDED", x.state(0), ENDED);
        x.instant(1, 0);
        check.due("all pause points", x.state(1), 1048575);
    }

    @Sentence(in = "Promise 9", words = "Returns the state")
    static void stateAfterEachCall(Check check) {
        SettledInstants x = Check.with(".;.;?a{!a}");
        check.due("read", x.state(0), START);
        x.instant(0, 0);
        check.due("an instant", x.state(0), 1);
        x.instant(0, 256);
        check.due("a refused instant", x.state(0), 1);
        x.instant(0, 0);
        x.instant(0, 0);
        check.due("a rejected instant", x.state(0), 2);
        x.undo(0);
        check.due("undone", x.state(0), 1);
        x.would(0, 0, 3);
        x.states(0, 1, 0);
        x.soon(0, 1, 8);
        check.due("asked", x.state(0), 1);
        x.restart(0);
        check.due("restarted", x.state(0), START);
        x.undo(0);
        check.due("a refused undo", x.state(0), START);
        Check.read(x, 0, "*{0}");
        check.due("a text with a fault", x.state(0), START);
        new Refusal(check, Refusal::busy).due("state(0)", y -> y.state(0), 4);
    }

    // ---- 10: would

    @Sentence(in = "Promise 10", words = "Returns a result of an instant that is not executed, in the present state")
    static void wouldExecutesNothing(Check check) {
        SettledInstants x = Check.with("!a;.;!b;.;!c");
        int[] present = {1, 2, 4, 0};
        for (int k = 0; k < 4; k++) {
            check.due("before instant " + k, x.would(0, 0, 0), present[k]);
            check.due("again", x.would(0, 0, 0), present[k]);
            check.due("instants", x.count(0, 3), k);
            x.instant(0, 0);
        }
        for (int what = 0; what < 5; what++) {
            int asked = what;
            int want = new int[] {3, 0, 1, 10, 2}[what];
            Refusal refusal = new Refusal(check, () -> {
                SettledInstants y = Check.with(".;!b;.|.;.");
                y.instant(0, 0);
                return y;
            });
            refusal.due("would(0, 1, " + what + ")", y -> y.would(0, 1, asked), want);
        }
    }

    @Sentence(in = "Promise 10", words = "`outside`: the signals from outside, 0 to 255")
    static void outsideOfWould(Check check) {
        for (int outside = 0; outside < 256; outside++) {
            check.due("would(0, " + outside + ", 0)", Check.with("!h").would(0, outside, 0), outside | 128);
        }
    }

    @Sentence(in = "Promise 10", words = "`what`: 0 for the signals that are present, 1 for the unsettled signals (0 if there are none")
    static void wouldBePresentOrUnsettled(Check check) {
        SettledInstants x = Check.with("?a{!b}{?c{!c}}");
        check.due("present", x.would(0, 1, 0), 3);
        check.due("no unsettled", x.would(0, 1, 1), 0);
        check.due("unsettled", x.would(0, 0, 1), 4);
        check.due("present with c", x.would(0, 4, 0), 4);
        check.due("all unsettled", Check.with("?a{!a}|?b{!b}|?c{!c}|?d{!d}|?e{!e}|?f{!f}|?g{!g}|?h{!h}").would(0, 0, 1), 255);
    }

    @Sentence(in = "Promise 10", words = "256 if only a local signal is unsettled), 2 for the code, 3 for the next state, 4 for the number of rounds (0 in the state ENDED)")
    static void wouldBeTheOthers(Check check) {
        check.due("only a local signal", Check.with(LOOSE).would(0, 0, 1), 256);
        check.due("a local signal and another", Check.with(LOOSE + "|?a{!a}").would(0, 0, 1), 1);
        SettledInstants x = Check.with("?a{.}{0}");
        check.due("code 1", x.would(0, 1, 2), 1);
        check.due("code 0", x.would(0, 0, 2), 0);
        check.due("next", x.would(0, 1, 3), 1);
        check.due("next ENDED", x.would(0, 0, 3), ENDED);
        check.due("rounds", x.would(0, 255, 4), 1);
        check.due("rounds, START", x.would(0, 0, 4), 2);
        x.instant(0, 0);
        check.due("no rounds in ENDED", x.would(0, 0, 4), 0);
        check.due("no rounds in ENDED with all", x.would(0, 255, 4), 0);
        check.due("rounds of a rejected instant", Check.with(LOOSE).would(0, 255, 4), 1);
    }

    @Sentence(in = "Promise 10", words = "Returns that value")
    static void wouldAsInstant(Check check) {
        for (int outside = 0; outside < 8; outside++) {
            SettledInstants x = Check.with("?a{!d;.}{?b{!e}}|*{&c;!f}");
            for (int k = 0; k < 3; k++) {
                int next = x.would(0, outside, 3);
                check.due("present " + k + " with " + outside, x.would(0, outside, 0), x.instant(0, outside));
                check.due("next " + k + " with " + outside, next, x.state(0));
            }
        }
    }

    @Sentence(in = "Promise 10", words = "OUTSIDE if outside or what is out of range")
    static void wouldOutside(Check check) {
        for (int outside : NO_SETS) refused(check, "would(0, " + outside + ", 0)", x -> x.would(0, outside, 0), OUTSIDE);
        for (int what : new int[] {-1, 5, LEAST, MOST}) refused(check, "would(1, 0, " + what + ")", x -> x.would(1, 0, what), OUTSIDE);
    }

    @Sentence(in = "Promise 10", words = "NOT if what is 0, 2 or 3 and the instant is rejected")
    static void wouldNot(Check check) {
        for (String text : new String[] {"!b;?a{!a}", LOOSE}) {
            for (int what : new int[] {0, 2, 3}) {
                new Refusal(check, () -> Check.with(text)).due("would(0, 0, " + what + ") of " + text, x -> x.would(0, 0, what), NOT);
            }
        }
        check.due("unsettled", Check.with("!b;?a{!a}").would(0, 0, 1), 1);
        check.due("rounds", Check.with("!b;?a{!a}").would(0, 0, 4), 2);
        check.due("unsettled", Check.with(LOOSE).would(0, 0, 1), 256);
        check.due("rounds", Check.with(LOOSE).would(0, 0, 4), 2);
        for (int what : new int[] {0, 2, 3}) check.due("not rejected, " + what, Check.with("!b;?a{!a}").would(0, 1, what), what == 0 ? 3 : 0);
    }

    // ---- 11: found

    @Sentence(in = "Promise 11", words = "Returns a result of the must/can analysis of the whole program, certainly executed, in the present state (starting in START, otherwise resuming)")
    static void foundInThePresentState(Check check) {
        SettledInstants x = Check.with("!a;.;$d{!d;?d{!b}{!c}}");
        check.found("starting", x, 0, 0, 1, 1, 2, 2);
        x.instant(0, 0);
        check.found("resuming", x, 0, 0, 2, 2, 1, 1);
        check.due("nothing is executed", x.state(0), 1);
        x.undo(0);
        check.found("starting again", x, 0, 0, 1, 1, 2, 2);
        new Refusal(check, Refusal::busy).due("found(0, 0, 0, 3)", y -> y.found(0, 0, 0, 3), 2);
    }

    @Sentence(in = "Promise 11", words = "`there`: the signals that are present, 0 to 255")
    static void there(Check check) {
        SettledInstants x = Check.with("?h{!a}{!b}");
        check.due("none", x.found(0, 0, 0, 1), 3);
        check.due("all", x.found(0, 255, 0, 1), 1);
        check.due("h", x.found(0, 128, 0, 1), 1);
        check.due("all but h", x.found(0, 127, 0, 1), 3);
        check.due("-1", x.found(0, -1, 0, 1), OUTSIDE);
        check.due("256", x.found(0, 256, 0, 1), OUTSIDE);
    }

    @Sentence(in = "Promise 11", words = "`notThere`: the signals that are absent, 0 to 255")
    static void notThere(Check check) {
        SettledInstants x = Check.with("?h{!a}{!b}");
        check.due("all", x.found(0, 0, 255, 1), 2);
        check.due("h", x.found(0, 0, 128, 1), 2);
        check.due("all but h", x.found(0, 0, 127, 1), 3);
        check.due("-1", x.found(0, 0, -1, 1), OUTSIDE);
        check.due("256", x.found(0, 0, 256, 1), OUTSIDE);
    }

    @Sentence(in = "Promise 11", words = "all others are unknown")
    static void allOthersAreUnknown(Check check) {
        SettledInstants x = Check.with("?a{!c}|?b{!d}{!e}");
        check.found("a alone", x, 1, 0, 4, 28, 0, 1);
        check.found("b alone", x, 0, 2, 16, 20, 0, 1);
        check.found("both", x, 1, 2, 20, 20, 1, 1);
        check.found("neither", x, 0, 0, 0, 28, 0, 1);
    }

    @Sentence(in = "Promise 11", words = "`what`: 0 for the signals that it must emit, 1 for those that it can emit, 2 for the code with which it must complete, 3 for those with which it can complete, as sets")
    static void fourSets(Check check) {
        SettledInstants x = Check.with("!a;?b{!c}{.}");
        int[] want = {1, 5, 0, 3};
        for (int what = 0; what < 4; what++) check.due("found " + what, x.found(0, 0, 0, what), want[what]);
        check.due("what -1", x.found(0, 0, 0, -1), OUTSIDE);
        check.due("what 4", x.found(0, 0, 0, 4), OUTSIDE);
    }

    @Sentence(in = "Promise 11", words = "Returns that set")
    static void emptyAndFullSets(Check check) {
        check.found("nothing is emitted", Check.with("0"), 0, 0, 0, 0, 1, 1);
        check.found("all are emitted", Check.with("!a|!b|!c|!d|!e|!f|!g|!h"), 0, 0, 255, 255, 1, 1);
        check.found("all can be emitted", Check.with("?a{!a|!b|!c|!d|!e|!f|!g|!h}{.}"), 0, 0, 0, 255, 0, 3);
    }

    @Sentence(in = "Promise 11", words = "OUTSIDE if an argument is out of range or a signal is in both sets")
    static void foundOutside(Check check) {
        for (int set : NO_SETS) {
            refused(check, "found(0, " + set + ", 0, 0)", x -> x.found(0, set, 0, 0), OUTSIDE);
            refused(check, "found(0, 0, " + set + ", 0)", x -> x.found(0, 0, set, 0), OUTSIDE);
        }
        for (int what : new int[] {-1, 4, LEAST, MOST}) refused(check, "found(1, 0, 0, " + what + ")", x -> x.found(1, 0, 0, what), OUTSIDE);
        for (int signal = 0; signal < 8; signal++) {
            int set = 1 << signal;
            refused(check, "in both: " + signal, x -> x.found(0, set, set, 0), OUTSIDE);
            check.due("in one: " + signal, Check.with("!a").found(0, set, 255 - set, 0), 1);
            check.due("in one and all", Check.with("!a").found(0, set, 255, 0), OUTSIDE);
        }
        check.due("all in one", Check.with("!a").found(0, 255, 0, 0), 1);
        check.due("all in the other", Check.with("!a").found(0, 0, 255, 0), 1);
    }

    @Sentence(in = "Promise 11", words = "NOT if the state is ENDED")
    static void foundNot(Check check) {
        for (int what = 0; what < 4; what++) {
            int asked = what;
            new Refusal(check, Refusal::full).due("found(1, 0, 0, " + what + ")", x -> x.found(1, 0, 0, asked), NOT);
        }
        SettledInstants x = Check.with("0");
        check.due("in START", x.found(0, 0, 0, 3), 1);
        x.instant(0, 0);
        check.due("in ENDED", x.found(0, 0, 0, 3), NOT);
        x.undo(0);
        check.due("in START again", x.found(0, 0, 0, 3), 1);
    }

    // ---- 12: waits, 13: ring

    @Sentence(in = "Promise 12", words = "Returns the signals for which a signal waits in an instant in the present state")
    static void waitsInThePresentState(Check check) {
        SettledInstants x = Check.with("?a{!a};.;?b{!a}|?a{!b}");
        check.due("in START", x.waits(0, 0, 0), 1);
        check.due("nothing is executed", x.state(0), START);
        x.instant(0, 1);
        check.due("resuming, a is settled", x.waits(0, 0, 0), 0);
        x = Check.with(".;?b{!a}|.;?a{!b}");
        check.due("in START", x.waits(0, 0, 0), 0);
        x.instant(0, 0);
        check.due("resuming", x.waits(0, 0, 0), 2);
        new Refusal(check, Refusal::busy).due("waits(1, 0, 0)", y -> y.waits(1, 0, 0), 1);
    }

    @Sentence(in = "Promise 12", words = "`outside`: the signals from outside, 0 to 255")
    static void outsideOfWaits(Check check) {
        for (int outside = 0; outside < 256; outside++) {
            int want = (outside & 128) == 0 ? 128 : 0;
            check.due("waits(0, " + outside + ", 7)", Check.with("?h{!h}").waits(0, outside, 7), want);
        }
    }

    @Sentence(in = "Promise 12", words = "`signal`: the signal, 0 to 7")
    static void signalOfWaits(Check check) {
        SettledInstants x = Check.with("?h{!a}|?a{!b}|?b{!c}|?c{!d}|?d{!e}|?e{!f}|?f{!g}|?g{!h}");
        for (int signal = 0; signal < 8; signal++) {
            check.due("waits(0, 0, " + signal + ")", x.waits(0, 0, signal), 1 << (signal + 7) % 8);
        }
        check.due("waits(0, 0, -1)", x.waits(0, 0, -1), OUTSIDE);
        check.due("waits(0, 0, 8)", x.waits(0, 0, 8), OUTSIDE);
    }

    @Sentence(in = "Promise 12", words = "Returns these signals as a set")
    static void waitsReturnsASet(Check check) {
        check.due("none", Check.with("$h{?h{!a};!h}").waits(0, 0, 0), 0);
        check.due("itself", Check.with("?a{!a}").waits(0, 0, 0), 1);
        String nested = "?a{?b{?c{?d{?e{?f{?g{?h{!a|!b|!c|!d|!e|!f|!g|!h}}}}}}}}";
        for (int signal = 0; signal < 8; signal++) check.due("all", Check.with(nested).waits(0, 0, signal), 255);
    }

    @Sentence(in = "Promise 12", words = "0 also if the signal is not unsettled")
    static void waitsOfASettledSignal(Check check) {
        SettledInstants x = Check.with("?a{!a}|?a{!b}|!c");
        check.due("a is unsettled", x.waits(0, 0, 0), 1);
        check.due("b is unsettled", x.waits(0, 0, 1), 1);
        check.due("c is present", x.waits(0, 0, 2), 0);
        check.due("d is absent", x.waits(0, 0, 3), 0);
        check.due("b is present from outside", x.waits(0, 2, 1), 0);
        check.due("all are settled", x.waits(0, 1, 0), 0);
        check.due("only a local signal is unsettled", Check.with(LOOSE).waits(0, 0, 7), 0);
        check.due("ENDED", Refusal.full().waits(1, 0, 0), 0);
    }

    @Sentence(in = "Promise 12", words = "OUTSIDE if outside or signal is out of range")
    static void waitsOutside(Check check) {
        for (int outside : NO_SETS) refused(check, "waits(0, " + outside + ", 0)", x -> x.waits(0, outside, 0), OUTSIDE);
        for (int signal : new int[] {-1, 8, 32, LEAST, MOST}) {
            refused(check, "waits(1, 0, " + signal + ")", x -> x.waits(1, 0, signal), OUTSIDE);
        }
    }

    @Sentence(in = "Promise 13", words = "Returns the ring of an instant in the present state")
    static void ringInThePresentState(Check check) {
        SettledInstants x = Check.with(".;?b{!a}|.;?a{!b}");
        check.due("in START", x.ring(0, 0), NONE);
        x.instant(0, 0);
        check.due("resuming", x.ring(0, 0), 3);
        check.due("nothing is executed", x.state(0), 3);
        new Refusal(check, Refusal::busy).due("ring(1, 0)", y -> y.ring(1, 0), 1);
    }

    @Sentence(in = "Promise 13", words = "`outside`: the signals from outside, 0 to 255")
    static void outsideOfRing(Check check) {
        for (int outside = 0; outside < 256; outside++) {
            int want = (outside & 128) == 0 ? 128 : NONE;
            check.due("ring(0, " + outside + ")", Check.with("?h{!h}").ring(0, outside), want);
        }
    }

    @Sentence(in = "Promise 13", words = "Returns the ring as a set, 0 if it is empty")
    static void emptyAndFullRings(Check check) {
        check.due("empty", Check.with("$h{?h{!a};!h}").ring(0, 0), 0);
        check.due("empty behind a way", Check.with("?b{!a}|$h{?h{!b};!h}").ring(0, 0), 0);
        check.due("one", Check.with("?a{!a}").ring(0, 0), 1);
        check.due("all", Check.with("?h{!a}|?a{!b}|?b{!c}|?c{!d}|?d{!e}|?e{!f}|?f{!g}|?g{!h}").ring(0, 0), 255);
    }

    @Sentence(in = "Promise 13", words = "NONE if none of the signals 0 to 7 is unsettled")
    static void noRing(Check check) {
        check.due("nothing is unsettled", Check.with("0").ring(0, 0), NONE);
        check.due("a local signal is unsettled", Check.with(LOOSE).ring(0, 0), NONE);
        check.due("settled from outside", Check.with("?a{!a}").ring(0, 1), NONE);
        check.due("signal 0 is unsettled", Check.with("?a{!a}").ring(0, 254), 1);
        check.due("signal 7 is unsettled", Check.with("?h{!h}").ring(0, 127), 128);
        check.due("ENDED", Refusal.full().ring(1, 0), NONE);
    }

    @Sentence(in = "Promise 13", words = "OUTSIDE if outside is out of range")
    static void ringOutside(Check check) {
        for (int outside : NO_SETS) {
            refused(check, "ring(0, " + outside + ")", x -> x.ring(0, outside), OUTSIDE);
            refused(check, "ring(1, " + outside + ")", x -> x.ring(1, outside), OUTSIDE);
        }
    }
}

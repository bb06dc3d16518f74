/** Promises 1 to 5: a new object, write, erase, program, fault. */
public final class TextPromises {
    private static final int UNKNOWN = -1000001, OUTSIDE = -1000002, NOT = -1000003, FULL = -1000004;
    private static final Check CHECK = new Check();

    public static void main(String[] args) {
        newObject();
        write();
        erase();
        program();
        shapesOfTexts();
        exits();
        limits();
        loops();
        orderOfFaults();
        fault();
        CHECK.end("TextPromises");
    }

    private static void due(String call, int got, int want) {
        CHECK.due(call, got, want);
    }

    /** A text is read at place 1 of a new object. */
    private static void text(String text, int answer, int fault) {
        SettledInstants x = new SettledInstants();
        due("program(1) of " + text, Check.read(x, 1, text), answer);
        due("fault() of " + text, x.fault(), fault);
        due("the text after it", x.erase(), 0);
        due("the program of " + text, x.state(1), fault == 0 ? 1048576 : UNKNOWN);
    }

    private static void newObject() {
        SettledInstants x = new SettledInstants();
        due("new: fault()", x.fault(), 0);
        due("new: erase()", x.erase(), 0);
        for (int place = -2; place < 4; place++) {
            due("new: state", x.state(place), UNKNOWN);
            due("new: instant", x.instant(place, 0), UNKNOWN);
            due("new: undo", x.undo(place), UNKNOWN);
            due("new: restart", x.restart(place), UNKNOWN);
            due("new: would", x.would(place, 0, 0), UNKNOWN);
            due("new: found", x.found(place, 0, 0, 0), UNKNOWN);
            due("new: waits", x.waits(place, 0, 0), UNKNOWN);
            due("new: ring", x.ring(place, 0), UNKNOWN);
            due("new: states", x.states(place, 1, 0), UNKNOWN);
            due("new: soon", x.soon(place, 1, 8), UNKNOWN);
            due("new: node", x.node(place, 0, 0), UNKNOWN);
            due("new: count", x.count(place, 4), UNKNOWN);
        }
        due("new: part", x.part(1), UNKNOWN);
        due("new: write", x.write('.'), 1);
        due("another object has a text of its own", new SettledInstants().write('.'), 1);
    }

    private static void write() {
        SettledInstants x = new SettledInstants();
        due("write(0)", x.write(0), 1);
        due("write(255)", x.write(255), 2);
        due("write(-1)", x.write(-1), OUTSIDE);
        due("write(256)", x.write(256), OUTSIDE);
        due("write(least)", x.write(Integer.MIN_VALUE), OUTSIDE);
        due("write(most)", x.write(Integer.MAX_VALUE), OUTSIDE);
        for (int length = 3; length <= 120; length++) {
            due("write of byte " + length, x.write('0'), length);
        }
        due("write beyond 120", x.write('0'), FULL);
        due("write beyond 120 and out of range", x.write(256), OUTSIDE);
        due("length after refused writes", x.erase(), 120);
        due("write after erase", x.write('0'), 1);
    }

    private static void erase() {
        SettledInstants x = new SettledInstants();
        Check.write(x, ".;!a");
        due("erase()", x.erase(), 4);
        due("erase() again", x.erase(), 0);
        Check.write(x, "!b");
        due("program behind erase", x.program(0), 0);
        due("the erased text is not read", x.instant(0, 0), 2);
    }

    private static void program() {
        SettledInstants x = new SettledInstants();
        Check.write(x, ".;.");
        due("program(2)", x.program(2), UNKNOWN);
        due("program(-1)", x.program(-1), UNKNOWN);
        due("program(most)", x.program(Integer.MAX_VALUE), UNKNOWN);
        due("the text stays", x.program(1), 2);
        due("place 0 stays empty", x.state(0), UNKNOWN);
        due("the text is emptied", x.count(1, 4), 0);
        x.instant(1, 0);
        due("a fault", Check.read(x, 1, ".;."  + ")"), -103);
        due("the text is emptied by a fault, too", x.count(1, 4), 0);
        due("the program stays", x.count(1, 0), 3);
        due("its state stays", x.state(1), 1);
        due("its instants stay", x.count(1, 3), 1);
        due("a program replaces it", Check.read(x, 1, "."), 1);
        due("its state is START", x.state(1), 1048576);
        due("nothing can be undone", x.undo(1), NOT);
        due("program(0)", Check.read(x, 0, "&a;&b|&c"), 3);
        due("place 1 has its own program", x.count(1, 0), 1);
    }

    private static void shapesOfTexts() {
        text("", -100, 1);
        text("   ", -103, 1);
        text("0", 0, 0);
        text(" . ", 1, 0);
        text("! a", 0, 0);
        text("!", -101, 1);
        text("!  ", -103, 1);
        text("!i", -101, 1);
        text("!h", 0, 0);
        text("!`", -101, 1);
        text("& a ; & h", 2, 0);
        text("!a!b", -102, 1);
        text(".;", -102, 1);
        text(".|", -102, 1);
        text(";.", -100, 1);
        text("|.", -100, 1);
        text(".;;.", -102, 1);
        text(".;|.", -102, 1);
        text("{.}", -100, 1);
        text("(.)", 1, 0);
        text("(.;(.|.))", 3, 0);
        text("(.", -102, 1);
        text("(.}", -102, 1);
        text(".)", -101, 1);
        text("()", -101, 1);
        text("^{.)", -103, 1);
        text("^(.)", -101, 1);
        text("^.", -101, 1);
        text("?a{.}", 1, 0);
        text("?a{.}{.}", 2, 0);
        text("?a{.}{.}{.}", -108, 1);
        text("?a{.};{.}", -106, 1);
        text("?a{}", -103, 1);
        text("?{.}", -101, 1);
        text("?a", -102, 1);
        text("?a{.}{", -106, 1);
        text("*a{.}", -101, 1);
        text("^{.}{.}", -104, 1);
        text("@a{.}{.}", -105, 1);
        text("@a{.}|~b{.}|$c{.}|*{.}", 4, 0);
        text("\t.", -100, 1);
        text((char) 0 + ".", -100, 1);
        text("." + (char) 255, -101, 1);
        text("1", -100, 1);
        text("a", -100, 1);
        text("." + Check.repeat(" ", 119), 1, 0);
        text(Check.repeat(" ", 120), -220, 1);
    }

    private static void exits() {
        text("x0", -101, 2);
        text("x", -101, 1);
        text("x5", -101, 1);
        text("xa", -101, 1);
        text("^{x0}", 0, 0);
        text("^{x 1}", -104, 2);
        text("^{x5}", -103, 1);
        text("^{x0};x0", -107, 2);
        text("^{^{x1}}", 0, 0);
        text("^{^{0};x1}", -108, 2);
        text("^{^{^{^{^{x4}}}}}", 0, 0);
        text("^{^{^{^{x4}}}}", -109, 2);
        text("^{@a{?b{$c{*{x0}}}}}", 0, 0);
    }

    private static void limits() {
        text("^{" + Check.repeat("0;", 29) + "0}", 0, 0);
        text(Check.repeat("0;", 30) + "0", -160, 3);
        text(Check.repeat("0;", 30) + "x9", -160, 3);
        text(Check.repeat("0;", 30), -160, 1);
        text(Check.repeat("0;", 30) + "}", -160, 1);
        text("^{" + Check.repeat("0;", 29) + "0;0}", -161, 3);
        text("^{" + Check.repeat("0|", 29) + "0|0}", -161, 3);
        text("^{" + Check.repeat("0|", 29) + "0)", -161, 1);
        text(Check.repeat(".;", 19) + ".", 20, 0);
        text(Check.repeat(".;", 20) + "0", 20, 0);
        text(Check.repeat(".;", 20) + ".", -140, 3);
        text(Check.repeat(".;", 19) + "&a;&b", -141, 3);
        text(Check.repeat(".;", 20) + "&z", -140, 3);
        text(Check.repeat("(", 12) + "0" + Check.repeat(")", 12), 0, 0);
        text(Check.repeat("(", 13) + "0" + Check.repeat(")", 13), -112, 4);
        text(Check.repeat("(", 12) + "{", -112, 1);
        text(Check.repeat("^{", 12) + "0" + Check.repeat("}", 12), 0, 0);
        text(Check.repeat("^{", 13) + "0" + Check.repeat("}", 13), -125, 4);
        text(Check.repeat("(", 11) + "?a{0}{(0)}", -117, 4);
        text("$a{$b{$c{0}}}", 0, 0);
        text("$a{$b{$c{$d{0}}}}", -109, 4);
        text("$a{$b{$c{0;($a", -112, 4);
        text("$a{0};$b{0};$c{0};$d{0}", 0, 0);
        text("?a{$a{0}}{$a{$a{$a{0}}}}", 0, 0);
        text("$a{$b{$c{^{" + Check.repeat("0;", 28) + "$a{0}", -167, 3);
        text("$a{$b{$c{" + Check.repeat("0;", 28) + "$a{0}", -165, 4);
    }

    private static void loops() {
        text("*{.}", 1, 0);
        text("*{&a}", 1, 0);
        text("*{0}", -100, 5);
        text(". ;*{!a}", -103, 5);
        text("*{?a{.}}", -100, 5);
        text("*{?a{.}{&b}}", 2, 0);
        text("*{^{x0|.}}", -100, 5);
        text("^{*{x0|.}}", 1, 0);
        text("^{*{x0}}", 0, 0);
        text("*{*{.}}", 1, 0);
        text("*{*{0}}", -100, 5);
        text("*{.;*{0}}", -104, 5);
        text(".;*{.};*{0}", -107, 5);
        text("*{.|0}", 1, 0);
        text("*{@a{.}}", 1, 0);
        text("*{~a{.}}", 1, 0);
        text("*{$a{?a{.}}}", -100, 5);
        text("*{$a{?a{0}{.}}}", 1, 0);
        text("*{$a{!a;?a{.}}}", -100, 5);
        text("*{$a{!a;?a{.}{.}}}", 2, 0);
        text("$a{*{?a{0}{.}}}", -103, 5);
    }

    private static void orderOfFaults() {
        text("x0;!z", -101, 2);
        text("!z;x0", -101, 1);
        text("*{0};x0", -106, 2);
        text("*{0};" + Check.repeat("(", 13), -117, 4);
        text("*{0}}", -104, 1);
        text(Check.repeat("(", 13) + ")", -112, 4);
    }

    private static void fault() {
        SettledInstants x = new SettledInstants();
        Check.read(x, 0, "*{0}");
        due("fault()", x.fault(), 5);
        x.write('!');
        x.program(2);
        due("fault() after UNKNOWN", x.fault(), 5);
        x.program(1);
        due("fault() of the last text", x.fault(), 1);
        due("fault() again", x.fault(), 1);
        Check.read(x, 1, "0");
        due("fault() after a sound text", x.fault(), 0);
    }
}

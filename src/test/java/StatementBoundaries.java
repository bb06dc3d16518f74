/** What the promises 17 and 18 say beside the places of programs. */
final class StatementBoundaries {
    private static final int NONE = -1, UNKNOWN = -1000001, OUTSIDE = -1000002;
    private static final int LEAST = Integer.MIN_VALUE, MOST = Integer.MAX_VALUE;
    private static final String LARGEST = "^{" + Check.repeat("0;", 29) + ".}";

    // ---- 17: node

    @Sentence(in = "Promise 17", words = "Returns a property of a statement")
    static void nodeChangesNothing(Check check) {
        int[] want = {'*', NONE, 7, 7, 2, 0};
        for (int what = 0; what < 6; what++) {
            int asked = what;
            new Refusal(check, Refusal::busy).due("node(0, 0, " + what + ")", x -> x.node(0, 0, asked), want[what]);
        }
    }

    @Sentence(in = "Promise 17", words = "`node`: the number of the statement")
    static void numbersOfStatements(Check check) {
        SettledInstants x = Check.with("!a;!b;!c", LARGEST);
        int[] tokens = {'!', ';', '!', ';', '!'};
        for (int node = 0; node < 5; node++) check.due("node(0, " + node + ", 0)", x.node(0, node, 0), tokens[node]);
        check.due("node(0, -1, 0)", x.node(0, -1, 0), UNKNOWN);
        check.due("node(0, 5, 0)", x.node(0, 5, 0), UNKNOWN);
        check.due("node(1, 59, 0)", x.node(1, 59, 0), '.');
        check.due("node(1, 60, 0)", x.node(1, 60, 0), UNKNOWN);
        check.due("the only one", Check.with("0").node(0, 0, 0), '0');
        check.due("none behind the only one", Check.with("0").node(0, 1, 0), UNKNOWN);
    }

    @Sentence(in = "Promise 17", words = "`what`: 0 for its token (the code of the byte), 1 for its signal, or for its digit if it is an exit, 2 for the pause points that it contains or is, as a set, 3 for the number of statements that it contains, 4 for its instantaneous codes, as a set, 5 for the number of statements that contain it")
    static void sixProperties(Check check) {
        SettledInstants x = Check.with("^{^{^{^{^{?h{x4}{&a|.}}}}}};!b");
        int[][] rows = {
            {'^', NONE, 3, 9, 3, 1}, {'^', NONE, 3, 8, 6, 2}, {'^', NONE, 3, 7, 10, 3}, {'^', NONE, 3, 6, 18, 4},
            {'^', NONE, 3, 5, 34, 5}, {'?', 7, 3, 4, 66, 6}, {'x', 4, 0, 0, 64, 7}, {'&', 0, 1, 0, 2, 8},
            {'|', NONE, 3, 2, 2, 7}, {'.', NONE, 2, 0, 2, 8}, {';', NONE, 3, 11, 3, 0}, {'!', 1, 0, 0, 1, 1}};
        for (int node = 0; node < rows.length; node++) {
            for (int what = 0; what < 6; what++) {
                check.due("node(0, " + node + ", " + what + ")", x.node(0, node, what), rows[node][what]);
            }
        }
        x = Check.with(LARGEST);
        check.due("the largest contains", x.node(0, 0, 3), 59);
        check.due("its first nothing is contained in", x.node(0, 1, 5), 30);
    }

    @Sentence(in = "Promise 17", words = "Returns the property")
    static void leastAndLargestProperties(Check check) {
        SettledInstants x = Check.with("." + Check.repeat(";.", 19));
        check.due("no pause points", Check.with("0").node(0, 0, 2), 0);
        check.due("all pause points", x.node(0, 37, 2), 1048575);
        check.due("signal a", Check.with("&a").node(0, 0, 1), 0);
        check.due("signal h", Check.with("&h").node(0, 0, 1), 7);
        check.due("digit 0", Check.with("^{x0}").node(0, 1, 1), 0);
        check.due("digit 4", Check.with("^{^{^{^{^{x4}}}}}").node(0, 5, 1), 4);
        check.due("all codes", Check.with("^{^{^{^{^{?a{?b{0}{.}}{?c{x0}{?d{x1}{?e{x2}{?f{x3}{x4}}}}}}}}}}").node(0, 5, 4), 127);
    }

    @Sentence(in = "Promise 17", words = "for what 1 NONE if it has neither a signal nor a digit")
    static void neitherSignalNorDigit(Check check) {
        SettledInstants x = Check.with("^{0;.|*{.};x0}|!a;&b;?c{0};@d{0};~e{0};$f{0}");
        String tokens = "^0;.|*.;x|!;&;?0;@0;~0;$0";
        int[] with = {8, 10, 12, 14, 17, 20, 23};
        int[] details = {0, 0, 1, 2, 3, 4, 5};
        for (int node = 0; node < tokens.length(); node++) {
            int want = NONE;
            for (int k = 0; k < with.length; k++) if (with[k] == node) want = details[k];
            check.due("token " + node, x.node(0, node, 0), tokens.charAt(node));
            check.due("signal or digit of " + node, x.node(0, node, 1), want);
        }
        check.due("UNKNOWN is told first", x.node(0, tokens.length(), 1), UNKNOWN);
    }

    @Sentence(in = "Promise 17", words = "UNKNOWN if there is no such program or statement")
    static void noSuchStatement(Check check) {
        for (int node : new int[] {-1, 8, 60, LEAST, MOST}) {
            new Refusal(check, Refusal::busy).due("node(0, " + node + ", 0)", x -> x.node(0, node, 0), UNKNOWN);
        }
        check.due("the last one", Refusal.busy().node(0, 7, 0), '&');
        SettledInstants x = Check.with(LARGEST);
        Check.read(x, 0, "0");
        check.due("a statement of a program that was replaced", x.node(0, 1, 0), UNKNOWN);
        Check.read(x, 0, LARGEST + "!");
        check.due("a statement of a program with a fault", x.node(0, 1, 0), UNKNOWN);
        check.due("a program at the other place", x.node(1, 0, 0), UNKNOWN);
    }

    @Sentence(in = "Promise 17", words = "OUTSIDE if what is not 0 to 5")
    static void nodeOutside(Check check) {
        for (int what : new int[] {-1, 6, 32, LEAST, MOST}) {
            new Refusal(check, Refusal::busy).due("node(0, 0, " + what + ")", x -> x.node(0, 0, what), OUTSIDE);
            new Refusal(check, Refusal::full).due("node(1, 0, " + what + ")", x -> x.node(1, 0, what), OUTSIDE);
        }
    }

    // ---- 18: count

    @Sentence(in = "Promise 18", words = "Returns a count")
    static void countChangesNothing(Check check) {
        int[] want = {8, 3, 1, 3, 4};
        for (int what = 0; what < 5; what++) {
            int asked = what;
            new Refusal(check, Refusal::busy).due("count(0, " + what + ")", x -> x.count(0, asked), want[what]);
        }
    }

    @Sentence(in = "Promise 18", words = "`what`: 0 for the number of statements, 1 for the number of pause points, 2 for the number of pause points at which the program rests now (0 in the state START), 3 for the number of instants that can be undone, 4 for the length of the text")
    static void fiveCounts(Check check) {
        SettledInstants x = Check.with("." + Check.repeat("|.", 19), "0");
        int[] least = {1, 0, 0, 0, 0};
        int[] most = {39, 20, 0, 0, 0};
        for (int what = 0; what < 5; what++) {
            check.due("count(1, " + what + ")", x.count(1, what), least[what]);
            check.due("count(0, " + what + ")", x.count(0, what), most[what]);
        }
        x.instant(0, 0);
        check.due("rests at all", x.count(0, 2), 20);
        x.instant(0, 0);
        check.due("rests at none in ENDED", x.count(0, 2), 0);
        for (int k = 0; k < 20; k++) x.instant(0, 0);
        check.due("instants", x.count(0, 3), 20);
        check.due("the 60th statement", Check.with(LARGEST).count(0, 0), 60);
        Check.write(x, Check.repeat(" ", 121));
        check.due("a full text", x.count(0, 4), 120);
        check.due("a full text, asked at the other place", x.count(1, 4), 120);
    }

    @Sentence(in = "Promise 18", words = "Returns the count")
    static void countsGoUpAndDown(Check check) {
        SettledInstants x = Check.with("*{.}");
        for (int k = 0; k < 25; k++) {
            check.due("instants", x.count(0, 3), Math.min(k, 20));
            x.instant(0, 0);
        }
        for (int k = 20; k > 0; k--) {
            check.due("instants", x.count(0, 3), k);
            x.undo(0);
        }
        check.due("none", x.count(0, 3), 0);
        for (int length = 0; length < 120; length++) {
            check.due("text", x.count(0, 4), length);
            x.write('.');
        }
        x.write('.');
        check.due("text", x.count(0, 4), 120);
        x.erase();
        check.due("text", x.count(0, 4), 0);
    }

    @Sentence(in = "Promise 18", words = "UNKNOWN if there is no program at the place (for what 4, too)")
    static void noTextWithoutAProgram(Check check) {
        for (int what = -1; what < 6; what++) {
            int asked = what;
            for (int place = -1; place < 3; place++) {
                int at = place;
                new Refusal(check, Refusal::withText).due("count(" + place + ", " + what + ")", x -> x.count(at, asked), UNKNOWN);
            }
        }
        SettledInstants x = new SettledInstants();
        Check.read(x, 1, "0");
        x.write('.');
        check.due("a program at the other place", x.count(0, 4), UNKNOWN);
        check.due("a program at the place", x.count(1, 4), 1);
    }

    @Sentence(in = "Promise 18", words = "OUTSIDE if what is not 0 to 4")
    static void countOutside(Check check) {
        for (int what : new int[] {-1, 5, 32, LEAST, MOST}) {
            new Refusal(check, Refusal::busy).due("count(0, " + what + ")", x -> x.count(0, what), OUTSIDE);
            new Refusal(check, Refusal::full).due("count(1, " + what + ")", x -> x.count(1, what), OUTSIDE);
        }
    }
}

/** Promises 17 and 18: node, count. */
public final class StatementPromises {
    private static final int NONE = -1, UNKNOWN = -1000001, OUTSIDE = -1000002;
    private static final Check CHECK = new Check();

    public static void main(String[] args) {
        node();
        properties();
        instantaneousCodes();
        count();
        CHECK.end("StatementPromises");
    }

    private static void due(String call, int got, int want) {
        CHECK.due(call, got, want);
    }

    private static void node() {
        SettledInstants x = Check.with(".;!c");
        due("node(1, 0, 0)", x.node(1, 0, 0), UNKNOWN);
        due("node(2, 0, 0)", x.node(2, 0, 0), UNKNOWN);
        due("node(-1, 0, 9)", x.node(-1, 0, 9), UNKNOWN);
        due("node(0, 3, 0)", x.node(0, 3, 0), UNKNOWN);
        due("node(0, -1, 0)", x.node(0, -1, 0), UNKNOWN);
        due("node(0, 60, 6)", x.node(0, 60, 6), UNKNOWN);
        due("node(0, most, 0)", x.node(0, Integer.MAX_VALUE, 0), UNKNOWN);
        due("node(0, least, 0)", x.node(0, Integer.MIN_VALUE, 0), UNKNOWN);
        due("node(0, 2, 6)", x.node(0, 2, 6), OUTSIDE);
        due("node(0, 2, -1)", x.node(0, 2, -1), OUTSIDE);
        due("node(0, 2, 0)", x.node(0, 2, 0), '!');
        Check.read(x, 0, "&h");
        due("only the statements of the last program", x.node(0, 1, 0), UNKNOWN);
        due("its token", x.node(0, 0, 0), '&');
    }

    /** A row for each statement: token, signal or digit, pause points, contained, containing. */
    private static void rows(String text, int[][] rows) {
        SettledInstants x = Check.with(text);
        int[] whats = {0, 1, 2, 3, 5};
        for (int node = 0; node < rows.length; node++) {
            for (int k = 0; k < whats.length; k++) {
                due(text + ": node(0, " + node + ", " + whats[k] + ")", x.node(0, node, whats[k]), rows[node][k]);
            }
        }
        due(text + ": no statement more", x.node(0, rows.length, 0), UNKNOWN);
    }

    private static void properties() {
        rows("!a;.;&b", new int[][] {
            {'!', 0, 0, 0, 2}, {';', NONE, 1, 2, 1}, {'.', NONE, 1, 0, 2}, {';', NONE, 3, 4, 0}, {'&', 1, 2, 0, 1}});
        rows("!a ;(.; &b)", new int[][] {
            {'!', 0, 0, 0, 1}, {';', NONE, 3, 4, 0}, {'.', NONE, 1, 0, 2}, {';', NONE, 3, 2, 1}, {'&', 1, 2, 0, 2}});
        rows("?h{.}|^{x0}", new int[][] {
            {'?', 7, 1, 1, 1}, {'.', NONE, 1, 0, 2}, {'|', NONE, 1, 4, 0}, {'^', NONE, 0, 1, 1}, {'x', 0, 0, 0, 2}});
        rows("?c{0}{.|.}", new int[][] {
            {'?', 2, 3, 4, 0}, {'0', NONE, 0, 0, 1}, {'.', NONE, 1, 0, 2}, {'|', NONE, 3, 2, 1}, {'.', NONE, 2, 0, 2}});
        rows("*{@b{~c{$d{.}}}}", new int[][] {
            {'*', NONE, 1, 4, 0}, {'@', 1, 1, 3, 1}, {'~', 2, 1, 2, 2}, {'$', 3, 1, 1, 3}, {'.', NONE, 1, 0, 4}});
        rows("^{^{x1}}", new int[][] {{'^', NONE, 0, 2, 0}, {'^', NONE, 0, 1, 1}, {'x', 1, 0, 0, 2}});
        SettledInstants x = Check.with("^{" + Check.repeat("0;", 29) + "0}");
        due("60 statements: the first", x.node(0, 0, 3), 59);
        due("60 statements: the last", x.node(0, 59, 5), 2);
        due("60 statements: the second", x.node(0, 1, 5), 30);
        x = Check.with(Check.repeat("^{", 12) + "." + Check.repeat(";!a", 23) + Check.repeat("}", 12));
        due("the deepest statement", x.node(0, 12, 5), 35);
        due("it starts", x.instant(0, 0), 0);
        due("it rests", x.state(0), 1);
        due("it resumes", x.instant(0, 0), 1);
        due("it ends", x.state(0), 0);
        x = Check.with(Check.repeat(".;", 19) + ".");
        due("20 pause points", x.node(0, 37, 2), (1 << 20) - 1);
        due("the last pause point", x.node(0, 38, 2), 1 << 19);
    }

    private static void codes(String text, int want) {
        due("instantaneous codes of " + text, Check.with("0;" + "^{^{^{^{^{0;(" + text + ")}}}}}").node(0, 8, 4), want);
    }

    private static void instantaneousCodes() {
        codes("0", 1);
        codes("!a", 1);
        codes(".", 2);
        codes("&a", 2);
        codes("x0", 4);
        codes("x4", 64);
        codes("?a{.}", 3);
        codes("?a{.}{x1}", 10);
        codes("^{x0}", 1);
        codes("^{x4}", 32);
        codes("^{.}", 2);
        codes("@a{.}", 2);
        codes("~a{?b{.}}", 3);
        codes("*{.}", 2);
        codes("*{?a{.}{x2}}", 18);
        codes("$a{?a{.}}", 1);
        codes("$a{!a;?a{.}}", 3);
        SettledInstants x = Check.with("^{^{?a{.}{x1}|?b{x0};!c}};0");
        due("a parallel: all maxima", x.node(0, 5, 4), 14);
        due("its right side", x.node(0, 8, 4), 5);
        due("the inner trap", x.node(0, 1, 4), 7);
        due("the outer trap", x.node(0, 0, 4), 3);
        due("the sequence", x.node(0, 10, 4), 3);
        due("the last nothing", x.node(0, 11, 4), 1);
        x = Check.with("?a{.}|?b{.}");
        due("a parallel of choices", x.node(0, 2, 4), 3);
        x = Check.with(".|?b{.}");
        due("the lower codes vanish", x.node(0, 1, 4), 2);
        x.instant(0, 0);
        due("whatever the state is", x.node(0, 0, 4), 2);
        x = Check.with("$a{!a;?a{.}}");
        due("inside a local signal all are unknown", x.node(0, 3, 4), 3);
    }

    private static void count() {
        SettledInstants x = Check.with("&a|.;.", "0");
        due("count(2, 0)", x.count(2, 0), UNKNOWN);
        due("count(-1, 9)", x.count(-1, 9), UNKNOWN);
        due("count(0, 5)", x.count(0, 5), OUTSIDE);
        due("count(0, -1)", x.count(0, -1), OUTSIDE);
        due("statements", x.count(0, 0), 5);
        due("pause points", x.count(0, 1), 3);
        due("resting in START", x.count(0, 2), 0);
        due("undoable", x.count(0, 3), 0);
        due("text", x.count(0, 4), 0);
        x.instant(0, 0);
        due("resting", x.count(0, 2), 2);
        due("undoable", x.count(0, 3), 1);
        x.instant(0, 0);
        x.instant(0, 0);
        due("resting at the await", x.count(0, 2), 1);
        x.instant(0, 1);
        due("resting in ENDED", x.count(0, 2), 0);
        due("undoable", x.count(0, 3), 4);
        Check.write(x, "abc");
        due("text", x.count(0, 4), 3);
        due("text, asked at the other place", x.count(1, 4), 3);
        due("place 1", x.count(1, 0), 1);
        SettledInstants empty = new SettledInstants();
        empty.write('.');
        due("no program: text", empty.count(0, 4), UNKNOWN);
        due("no program: out of range", empty.count(0, 5), UNKNOWN);
    }
}

/** What the document says of codes and of the must/can analysis. */
final class AnalysisBoundaries {
    private static final int ENDED = 0;
    /** Emits b if it is certainly executed; otherwise a stays unknown, and b and c are possible. */
    private static final String LOCAL = "$a{!a;?a{!b}{!c}}";
    private static final int A = 1, B = 2, C = 4, D = 8, E = 16, F = 32;

    /** The program in START. */
    private static void starting(Check check, String text, int there, int notThere, int... want) {
        check.found(text, Check.with(text), there, notThere, want);
    }

    /** The program behind one instant without signals. */
    private static void resuming(Check check, String text, int there, int notThere, int... want) {
        SettledInstants x = Check.with(text);
        x.instant(0, 0);
        check.found(text + " resuming", x, there, notThere, want);
    }

    @Sentence(in = "Description", words = "0 means that it ends, 1 that it rests until the next instant, and 2 + d that an exit with the digit d is on its way: it leaves as many traps beyond the nearest one as d says")
    static void codesFrom0To6(Check check) {
        check.due("it ends", Check.with("0").would(0, 0, 2), 0);
        check.due("it rests", Check.with(".").would(0, 0, 2), 1);
        for (int digit = 0; digit <= 4; digit++) {
            SettledInstants x = Check.with("^{^{^{^{^{x" + digit + "};!a};!b};!c};!d};!e");
            check.due("code of x" + digit, x.node(0, 5, 4), 1 << 2 + digit);
            check.due("traps that x" + digit + " leaves", x.instant(0, 0), 31 >> digit << digit);
        }
    }

    @Sentence(in = "Description", words = "In an instant a statement either starts, or it resumes, that is, it goes on in a later instant at the pause points at which it rests")
    static void startingAndResuming(Check check) {
        check.course("!a;.;!b", 0, A, 1, 0, B, ENDED);
        check.course("!a;(.;!b|.;.;!c)", 0, A, 3, 0, B, 4, 0, C, ENDED);
        check.course("*{!a;.;!b}", 0, A, 1, 0, A | B, 1);
    }

    @Sentence(in = "Description", words = "A statement is live if the program rests at a pause point that it contains or is")
    static void live(Check check) {
        check.course(".", 0, 0, 1, 0, 0, ENDED);
        check.course("?a{.;!b}{.;!c}", A, A, 1, 0, B, ENDED);
        check.course("?a{.;!b}{.;!c}", 0, 0, 2, A, A | C, ENDED);
        check.course("(.;!a);.;!b", 0, 0, 1, 0, A, 2, 0, B, ENDED);
        check.course("(^{*{?a{&b;x0}{.}}}|.);!c", A, A, 5, 0, 0, 1, B, B | C, ENDED);
    }

    @Sentence(in = "Description", words = "In an instant each signal is present, absent or (still) unknown")
    static void threeValues(Check check) {
        starting(check, "?a{!b}{!c}", A, 0, B, B, 1, 1);
        starting(check, "?a{!b}{!c}", 0, A, C, C, 1, 1);
        starting(check, "?a{!b}{!c}", 0, 0, 0, B | C, 0, 1);
        starting(check, "?h{!b}{!c}", 128, 127, B, B, 1, 1);
        starting(check, "?h{!b}{!c}", 127, 128, C, C, 1, 1);
        starting(check, "?h{!b}{!c}", 0, 127, 0, B | C, 0, 1);
    }

    @Sentence(in = "Description", words = "this analysis gives four sets: the signals that it must emit, the code with which it must complete (at most one), the signals that it can emit, and the codes with which it can complete")
    static void atMostOneCodeAndMustWithinCan(Check check) {
        String[] texts = {
            "?a{!b}{.}", "^{?a{x0}{.;!c}|&b;!a};!c", "*{@a{&b;!c;?c{.}}|~b{.;!a;.};.}", "$a{?b{!a};?a{.}{!c}}|?c{.}", "^{^{?a{x1}{x0}|?b{.}}}"};
        for (String text : texts) {
            SettledInstants x = Check.with(text);
            for (int instants = 0; instants < 2 && x.state(0) != ENDED; instants++) {
                for (int known = 0; known < 64; known++) {
                    int there = known & 7, notThere = known >> 3;
                    if ((there & notThere) != 0) continue;
                    int mustEmit = x.found(0, there, notThere, 0), mustCode = x.found(0, there, notThere, 2);
                    String name = text + " in " + x.state(0) + " with " + there + " and without " + notThere;
                    check.holds(name + ": at most one code", Integer.bitCount(mustCode) <= 1);
                    check.holds(name + ": must emit is in can emit", (mustEmit & ~x.found(0, there, notThere, 1)) == 0);
                    check.holds(name + ": must complete is in can complete", (mustCode & ~x.found(0, there, notThere, 3)) == 0);
                    check.holds(name + ": some code can be", x.found(0, there, notThere, 3) != 0);
                }
                x.instant(0, B | C);
            }
        }
    }

    @Sentence(in = "Description", words = "The analysis has a further input, which says whether the statement is certainly executed; it matters for local signals only")
    static void certainlyExecuted(Check check) {
        starting(check, LOCAL, 0, 0, B, B, 1, 1);
        starting(check, "?d{" + LOCAL + "}", D, 0, B, B, 1, 1);
        starting(check, "?d{" + LOCAL + "}", 0, 0, 0, B | C, 0, 1);
        // a signal that is not local is what it is found to be
        starting(check, "?d{!a;?a{!b}{!c}}", A, 0, 0, A | B, 0, 1);
        starting(check, "?d{!a;?a{!b}{!c}}", 0, 0, 0, A | B | C, 0, 1);
    }

    @Sentence(in = "Description", words = "If nothing else is said, this input is passed on unchanged, and where a single code or signal is given it is meant for must and can alike")
    static void passedOn(Check check) {
        String[] around = {"s", "0;s", "s;0", "0|s", "s|0", "^{s}", "^{*{s;.}}", "@e{s}", "~e{s}", "?f{s}", "?g{0}{s}", "$h{s}", "$h{!h;s}"};
        for (String each : around) {
            String part = each.replace("s", LOCAL);
            SettledInstants x = Check.with("?d{" + part + "}");
            check.due(part + " if it is certain: must", x.found(0, D | F, 64, 0), B);
            check.due(part + " if it is certain: can", x.found(0, D | F, 64, 1), B);
            check.due(part + " if it is not: must", x.found(0, F, 64, 0), 0);
            check.due(part + " if it is not: can", x.found(0, F, 64, 1), B | C);
        }
    }

    @Sentence(in = "Description", words = "nothing: code 0. emit: emits s, code 0. exit: code 2 + d")
    static void nothingEmitExit(Check check) {
        starting(check, "0", 0, 0, 0, 0, 1, 1);
        starting(check, "!a", 0, 0, A, A, 1, 1);
        starting(check, "!h", 0, 255, 128, 128, 1, 1);
        starting(check, "^{x0;!a}", 0, 0, 0, 0, 1, 1);
        SettledInstants x = Check.with("^{^{^{^{^{x0|x4}}}}}");
        check.due("codes of x0", x.node(0, 5, 4), 4);
        check.due("codes of x4", x.node(0, 7, 4), 64);
    }

    @Sentence(in = "Description", words = "pause: code 1 if it starts, code 0 if it resumes")
    static void pause(Check check) {
        starting(check, ".", 0, 0, 0, 0, 2, 2);
        starting(check, ".", 255, 0, 0, 0, 2, 2);
        resuming(check, ".", 0, 0, 0, 0, 1, 1);
        resuming(check, ".", 0, 255, 0, 0, 1, 1);
    }

    @Sentence(in = "Description", words = "await: code 1 if it starts")
    static void awaitStarts(Check check) {
        starting(check, "&a", 0, 0, 0, 0, 2, 2);
        starting(check, "&a", A, 0, 0, 0, 2, 2);
        starting(check, "&a", 0, A, 0, 0, 2, 2);
    }

    @Sentence(in = "Description", words = "If it resumes: code 0 if s is present, code 1 if s is absent; if s is unknown, it must complete with no code and can complete with 0 and 1")
    static void awaitResumes(Check check) {
        resuming(check, "&a", A, 0, 0, 0, 1, 1);
        resuming(check, "&a", 0, A, 0, 0, 2, 2);
        resuming(check, "&a", 0, 0, 0, 0, 0, 3);
        resuming(check, "&h", 127, 0, 0, 0, 0, 3);
        resuming(check, "&h", 128, 0, 0, 0, 1, 1);
    }

    @Sentence(in = "Description", words = "choice: if it starts and s is present, the result is that of the first branch, starting; if s is absent, that of the second branch, starting; if s is unknown, both branches are analysed as starting and not certainly executed, must is empty, and can is the union of what both can")
    static void choiceStarts(Check check) {
        String text = "?d{!b;.}{" + LOCAL + "}";
        starting(check, text, D, 0, B, B, 2, 2);
        starting(check, text, 0, D, B, B, 1, 1);
        starting(check, text, 0, 0, 0, B | C, 0, 3);
        starting(check, "?d{" + LOCAL + "}{!e;.}", 0, 0, 0, B | C | E, 0, 3);
        starting(check, "?d{!b}{!b}", 0, 0, 0, B, 0, 1);
        starting(check, "?d{!b}", 0, D, 0, 0, 1, 1);
        starting(check, "?d{!b;.}", 0, 0, 0, B, 0, 3);
    }

    @Sentence(in = "Description", words = "If it resumes, the result is that of the branch that is live, resuming")
    static void choiceResumes(Check check) {
        for (int a = 0; a < 2; a++) {
            SettledInstants x = Check.with("?a{.;!b}{.;!c}");
            x.instant(0, a);
            int want = a == 1 ? B : C;
            check.found("branch of " + a, x, 0, 0, want, want, 1, 1);
            check.found("branch of " + a, x, A, 0, want, want, 1, 1);
            check.found("branch of " + a, x, 0, A, want, want, 1, 1);
        }
        SettledInstants x = Check.with("?a{.;!b}");
        x.instant(0, A);
        check.found("with an omitted branch", x, 0, A, B, B, 1, 1);
    }

    @Sentence(in = "Description", words = "sequence: if it resumes and left is not live, the result is that of right, resuming")
    static void sequenceResumesRight(Check check) {
        resuming(check, "!a;.;!b", 0, 0, B, B, 1, 1);
        resuming(check, "!a;(.;!b;.)", 0, 0, B, B, 2, 2);
        resuming(check, "?a{.;!d};(&e;!b)", 0, 0, 0, B, 0, 3);
    }

    @Sentence(in = "Description", words = "Otherwise left is analysed (starting or resuming)")
    static void sequenceAnalysesLeft(Check check) {
        starting(check, "(!a;.);!b", 0, 0, A, A, 2, 2);
        resuming(check, "(!a;.);!b", 0, 0, B, B, 1, 1);
        resuming(check, "(!a;.;!c);!b", 0, 0, B | C, B | C, 1, 1);
    }

    @Sentence(in = "Description", words = "If left cannot complete with 0, the result is that of left")
    static void sequenceStopsAtLeft(Check check) {
        starting(check, "!a;.;!b", 0, 0, A, A, 2, 2);
        starting(check, "^{(!a;x0);!b}", 0, 0, A, A, 1, 1);
        starting(check, "^{?d{.}{x0};!b}", 0, 0, 0, 0, 0, 3);
        resuming(check, "&d;!b", 0, D, 0, 0, 2, 2);
    }

    @Sentence(in = "Description", words = "If it can, right is analysed as starting, certainly executed only if the sequence is and left must complete with 0")
    static void sequenceStartsRight(Check check) {
        starting(check, "?d{.};" + LOCAL, 0, D, B, B, 1, 1);
        starting(check, "?d{.};" + LOCAL, 0, 0, 0, B | C, 0, 3);
        starting(check, "?d{0;" + LOCAL + "}", 0, 0, 0, B | C, 0, 1);
        resuming(check, "&d;" + LOCAL, D, 0, B, B, 1, 1);
        resuming(check, "&d;" + LOCAL, 0, 0, 0, B | C, 0, 3);
        resuming(check, "&d;.", D, 0, 0, 0, 2, 2);
    }

    @Sentence(in = "Description", words = "Can: the signals of both; the codes of left without 0, and the codes of right")
    static void sequenceCan(Check check) {
        starting(check, "?d{!e;.};!f", 0, 0, 0, E | F, 0, 3);
        starting(check, "?d{.};.", 0, 0, 0, 0, 0, 2);
        SettledInstants x = Check.with("^{^{?d{x1};.}}");
        check.due("the codes 3 and 1", x.node(0, 4, 4), 10);
        check.due("the codes 2 and 1", x.node(0, 1, 4), 6);
    }

    @Sentence(in = "Description", words = "Must: if left must complete with 0, the signals of both and the code of right, otherwise what left must")
    static void sequenceMust(Check check) {
        starting(check, "!e;!f", 0, 0, E | F, E | F, 1, 1);
        starting(check, "!e;!f;.", 0, 0, E | F, E | F, 2, 2);
        starting(check, "!e;?d{.};!f", 0, 0, E, E | F, 0, 3);
        starting(check, "!e;?d{0};!f", 0, 0, E, E | F, 0, 1);
        resuming(check, "(.;!e|&d);!f", 0, 0, E, E | F, 0, 3);
    }

    @Sentence(in = "Description", words = "parallel: each of left and right starts if the parallel starts; if it resumes, each one that is live resumes, and one that is not live emits nothing and has the code 0")
    static void parallelSides(Check check) {
        starting(check, "!a;.|!b", 0, 0, A | B, A | B, 2, 2);
        resuming(check, ".;!a|.;!b;.", 0, 0, A | B, A | B, 2, 2);
        resuming(check, ".;!a|!b", 0, 0, A, A, 1, 1);
        resuming(check, "!b|.;!a", 0, 0, A, A, 1, 1);
        resuming(check, "!b|.;.", 0, 0, 0, 0, 2, 2);
    }

    @Sentence(in = "Description", words = "The signals are those of both")
    static void parallelSignals(Check check) {
        starting(check, "!a|!b", 0, 0, A | B, A | B, 1, 1);
        starting(check, "!a|?c{!b}", 0, 0, A, A | B, 0, 1);
        starting(check, "^{x0|!b}", 0, 0, B, B, 1, 1);
        starting(check, "0|0", 0, 0, 0, 0, 1, 1);
    }

    @Sentence(in = "Description", words = "The codes are all max(a, b) for a code a of left and a code b of right (so must has no code if one of them has none)")
    static void parallelCodes(Check check) {
        starting(check, "0|.", 0, 0, 0, 0, 2, 2);
        starting(check, ".|?d{.}", 0, 0, 0, 0, 0, 2);
        starting(check, "?d{.}|.", 0, 0, 0, 0, 0, 2);
        starting(check, "?d{.}|?e{.}", 0, 0, 0, 0, 0, 3);
        starting(check, "?d{.}|0", 0, 0, 0, 0, 0, 3);
        SettledInstants x = Check.with("^{^{^{^{^{(?a{.}{x1}|?b{x0})|(x4|x3)}}}}}");
        check.due("codes 1 and 3 with 2 and 0", x.node(0, 8, 4), 14);
        check.due("codes 6 and 5", x.node(0, 13, 4), 64);
        check.due("codes 1 to 3 with 6", x.node(0, 11, 4), 64);
        x = Check.with("^{^{?a{0}{x1}|.}}");
        check.due("codes 0 and 3 with 1", x.node(0, 5, 4), 10);
    }

    @Sentence(in = "Description", words = "loop: the result is that of the block")
    static void loopStarts(Check check) {
        starting(check, "*{!a;.}", 0, 0, A, A, 2, 2);
        starting(check, "^{*{!a;?d{.}{x0}}}", 0, 0, A, A, 0, 3);
        resuming(check, "*{.;!a;.}", 0, 0, A, A, 2, 2);
    }

    @Sentence(in = "Description", words = "But if the loop resumes, and the block can complete with 0, then the block is also started after that, and the result is that of a sequence of the resuming block and the starting block (everything begins anew, also local signals in the block)")
    static void loopBeginsAnew(Check check) {
        resuming(check, "*{!a;.;!b}", 0, 0, A | B, A | B, 2, 2);
        resuming(check, "*{!a;&d;!b}", 0, 0, 0, A | B, 0, 2);
        resuming(check, "*{!a;&d;!b}", 0, D, 0, 0, 2, 2);
        resuming(check, "*{!a;&d;!b}", D, 0, A | B, A | B, 2, 2);
        // the first a is emitted, the second one is another signal and absent
        resuming(check, "*{$a{?a{!b}{!c};.;!a}}", 0, 0, C, C, 2, 2);
        check.course("*{$a{?a{!b}{!c};.;!a}}", 0, C, 1, 0, C, 1);
        // the starting block is certainly executed only if the resuming one must end
        resuming(check, "*{" + LOCAL + ";&d}", D, 0, B, B, 2, 2);
        resuming(check, "*{" + LOCAL + ";&d}", 0, 0, 0, B | C, 0, 2);
    }

    @Sentence(in = "Description", words = "trap: the result is that of the block, but code 2 becomes 0, and each code above 2 becomes lower by 1")
    static void trap(Check check) {
        starting(check, "^{!a}", 0, 0, A, A, 1, 1);
        starting(check, "^{!a;.}", 0, 0, A, A, 2, 2);
        starting(check, "^{!a;x0}", 0, 0, A, A, 1, 1);
        starting(check, "^{?a{0}{x0}}", 0, 0, 0, 0, 0, 1);
        SettledInstants x = Check.with("^{^{^{^{^{x4}}}}}");
        int[] codes = {1, 4, 8, 16, 32, 64};
        for (int node = 0; node < 6; node++) check.due("codes of " + node, x.node(0, node, 4), codes[node]);
        resuming(check, "^{.;!a;x0}", 0, 0, A, A, 1, 1);
    }

    @Sentence(in = "Description", words = "abort: if it starts, the result is that of the block")
    static void abortStarts(Check check) {
        starting(check, "@a{!b;.}", A, 0, B, B, 2, 2);
        starting(check, "@a{!b;.}", 0, 0, B, B, 2, 2);
        starting(check, "@d{" + LOCAL + "}", 0, 0, B, B, 1, 1);
    }

    @Sentence(in = "Description", words = "If it resumes: if s is present, it emits nothing and has the code 0; if s is absent, the result is that of the block; if s is unknown, the block is analysed as not certainly executed, must is empty, and can is what the block can, and the code 0")
    static void abortResumes(Check check) {
        resuming(check, "@d{.;!b;.}", D, 0, 0, 0, 1, 1);
        resuming(check, "@d{.;!b;.}", 0, D, B, B, 2, 2);
        resuming(check, "@d{.;!b;.}", 0, 0, 0, B, 0, 3);
        resuming(check, "@d{.;" + LOCAL + "}", 0, 0, 0, B | C, 0, 1);
        resuming(check, "@d{.;" + LOCAL + "}", 0, D, B, B, 1, 1);
        resuming(check, "^{@d{.;x0}}", 0, 0, 0, 0, 0, 1);
    }

    @Sentence(in = "Description", words = "weak abort: the result is that of the block")
    static void weakAbortStarts(Check check) {
        starting(check, "~a{!b;.}", A, 0, B, B, 2, 2);
        starting(check, "~a{!b;.}", 0, 0, B, B, 2, 2);
        starting(check, "~d{" + LOCAL + "}", 0, 0, B, B, 1, 1);
    }

    @Sentence(in = "Description", words = "But if it resumes, the code 1 is changed: if s is present, 1 becomes 0; if s is absent, it stays; if s is unknown, 1 is removed from must, and if can contains 1, 0 is added to can")
    static void weakAbortResumes(Check check) {
        resuming(check, "~d{.;!b;.}", D, 0, B, B, 1, 1);
        resuming(check, "~d{.;!b;.}", 0, D, B, B, 2, 2);
        resuming(check, "~d{.;!b;.}", 0, 0, B, B, 0, 3);
        resuming(check, "~d{.;!b}", 0, 0, B, B, 1, 1);
        resuming(check, "~d{&e}", D, 0, 0, 0, 0, 1);
        resuming(check, "~d{.;" + LOCAL + "}", 0, 0, B, B, 1, 1);
        // the other codes stay as they are
        resuming(check, "^{~d{.;x0};!b}", D, 0, 0, 0, 1, 1);
        resuming(check, "^{~d{.;?e{x0}{.}};!b}", D, 0, 0, B, 0, 1);
        resuming(check, "^{~d{.;x0};!b}", 0, 0, 0, 0, 1, 1);
    }

    @Sentence(in = "Description", words = "local signal: inside the block, s is another signal than outside")
    static void localIsAnother(Check check) {
        starting(check, "!a;$a{?a{!b}{!c}};?a{!d}{!e}", A, 0, A | C | D, A | C | D, 1, 1);
        starting(check, "$a{!a};?a{!d}{!e}", 0, A, E, E, 1, 1);
        starting(check, "$h{!h;?h{!b}{!c}}", 0, 128, B, B, 1, 1);
        starting(check, "$a{$a{!a};?a{!b}{!c}}", 0, 0, C, C, 1, 1);
    }

    @Sentence(in = "Description", words = "The block is analysed with this signal unknown")
    static void localIsUnknownFirst(Check check) {
        starting(check, "$a{?a{!a;!b}}", 0, 0, 0, B, 0, 1);
        starting(check, "$a{?a{0}{!a;!b}}", 0, 0, 0, B, 0, 1);
        starting(check, "$a{?a{!a}{!a};?a{!b}{!c}}", A, 0, 0, B | C, 0, 1);
    }

    @Sentence(in = "Description", words = "If the local signal statement is certainly executed and the block must emit s, the block is analysed again with s present; otherwise, if the block cannot emit s, it is analysed again with s absent")
    static void localIsPresentOrAbsent(Check check) {
        starting(check, LOCAL, 0, 0, B, B, 1, 1);
        starting(check, "?d{" + LOCAL + "}", 0, 0, 0, B | C, 0, 1);
        starting(check, "$a{?a{!b}{!c}}", 0, 0, C, C, 1, 1);
        starting(check, "?d{$a{?a{!b}{!c}}}", 0, 0, 0, C, 0, 1);
        starting(check, "$a{?d{!a};?a{!b}{!c}}", 0, 0, 0, B | C, 0, 1);
        starting(check, "$a{?d{!a};?a{!b}{!c}}", D, 0, B, B, 1, 1);
        starting(check, "$a{?d{!a};?a{!b}{!c}}", 0, D, C, C, 1, 1);
        // what is known of the other signals stays as it is
        for (String local : new String[] {"$b{!b;?a{!c}{!d}}", "$b{?a{!c}{!d}}", "$h{!h;?a{!c}{!d}}", "$h{?a{!c}{!d}}"}) {
            starting(check, local, 0, 0, 0, C | D, 0, 1);
            starting(check, local, A, 0, C, C, 1, 1);
            starting(check, local, 0, A, D, D, 1, 1);
        }
    }

    @Sentence(in = "Description", words = "The last result counts; s is removed from its emitted signals")
    static void localIsRemoved(Check check) {
        starting(check, "$a{!a}", 0, 0, 0, 0, 1, 1);
        starting(check, "$a{!a;!b}", 0, 0, B, B, 1, 1);
        starting(check, "$a{?d{!a}}", 0, 0, 0, 0, 0, 1);
        starting(check, "$a{!a}|!a", 0, 0, A, A, 1, 1);
        starting(check, "$h{!h;.}", 0, 0, 0, 0, 2, 2);
    }

    @Sentence(in = "Description", words = "The instantaneous codes of a statement are the codes with which it can complete if it starts, is not certainly executed, and all signals are unknown")
    static void instantaneousCodes(Check check) {
        check.due("of a pause, which starts", Check.with(".").node(0, 0, 4), 2);
        SettledInstants x = Check.with("&a;!b");
        x.instant(0, 0);
        check.due("of an await, which starts in every state", x.node(0, 0, 4), 2);
        check.due("of a sequence, in every state", x.node(0, 1, 4), 2);
        check.due("of a choice, whose signal is unknown", Check.with("?a{.}").node(0, 0, 4), 3);
        check.due("of a local signal that must be emitted", Check.with("$a{!a;?a{.}}").node(0, 0, 4), 3);
        check.due("of a local signal that cannot be", Check.with("$a{?a{.}}").node(0, 0, 4), 1);
        check.due("of the choice in it", Check.with("$a{?a{.}}").node(0, 1, 4), 3);
    }
}

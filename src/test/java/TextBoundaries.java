/** What the document says of calls, signals, places, texts, statements and pause points. */
final class TextBoundaries {
    private static final int UNKNOWN = -1000001, FULL = -1000004;
    private static final int START = 1048576, ENDED = 0;
    private static final String[] WITH_SIGNAL = {"!s", "&s", "?s{0}", "@s{0}", "~s{0}", "$s{0}"};

    @Sentence(in = "What it is", words = "An object is used for at most 512 calls after it has been made; what later calls answer is free")
    static void the512thCallAnswers(Check check) {
        SettledInstants x = new SettledInstants();
        int calls = 0;
        for (char letter : "*{.;.;.}".toCharArray()) check.due("call " + calls, x.write(letter), ++calls);
        check.due("call " + ++calls, x.program(0), 3);
        int instants = 0;
        while (calls < 511) {
            check.due("call " + ++calls, x.instant(0, 0), 0);
            check.due("call " + ++calls, x.state(0), 1 << instants++ % 3);
        }
        check.due("call " + ++calls, x.count(0, 3), 20);
        check.due("calls", calls, 512);
        for (; calls < 2000; calls++) x.instant(0, calls & 255);
    }

    @Sentence(in = "Description", words = "The signals are a to h, with the numbers 0 to 7")
    static void lettersFromAToH(Check check) {
        for (int number = 0; number < 8; number++) {
            SettledInstants x = Check.with("!" + (char) ('a' + number));
            check.due("number of " + (char) ('a' + number), x.node(0, 0, 1), number);
            check.due("instant", x.instant(0, 0), 1 << number);
        }
        for (String form : WITH_SIGNAL) {
            int points = form.equals("&s") ? 1 : 0;
            check.text(form.replace('s', 'a'), points, 0);
            check.text(form.replace('s', 'h'), points, 0);
            for (char no : new char[] {'a' - 1, 'h' + 1, 'A', 'H', '0', '{'}) check.text(form.replace('s', no), -101, 1);
        }
    }

    @Sentence(in = "Description", words = "A set of signals, of codes or of pause points is a bit set in which bit k stands for number k")
    static void firstAndLastBits(Check check) {
        check.due("signal 0", Check.with("!a").instant(0, 0), 1);
        check.due("signal 7", Check.with("!h").instant(0, 0), 128);
        check.due("all signals", Check.with("!a;!b;!c;!d;!e;!f;!g;!h").instant(0, 0), 255);
        check.due("code 0", Check.with("0").node(0, 0, 4), 1);
        check.due("code 1", Check.with(".").node(0, 0, 4), 2);
        check.due("code 6", Check.with("^{^{^{^{^{x4}}}}}").node(0, 5, 4), 64);
        SettledInstants x = Check.with(Check.repeat(".;", 19) + ".");
        check.due("pause point 0", x.node(0, 0, 2), 1);
        check.due("pause point 19", x.node(0, 38, 2), 524288);
        check.due("all pause points", x.node(0, 37, 2), 1048575);
    }

    @Sentence(in = "Description", words = "There are two places for programs, 0 and 1; at first there is no program")
    static void twoPlaces(Check check) {
        SettledInstants x = new SettledInstants();
        check.due("state(0) at first", x.state(0), UNKNOWN);
        check.due("state(1) at first", x.state(1), UNKNOWN);
        Check.write(x, ".");
        for (int place : new int[] {-1, 2, 3, Integer.MIN_VALUE, Integer.MAX_VALUE}) {
            check.due("program(" + place + ")", x.program(place), UNKNOWN);
            check.due("state(" + place + ")", x.state(place), UNKNOWN);
        }
        check.due("program(1)", x.program(1), 1);
        check.due("state(0) without a program", x.state(0), UNKNOWN);
        check.due("program(0)", Check.read(x, 0, ".;."), 2);
        check.due("pause points at place 0", x.count(0, 1), 2);
        check.due("pause points at place 1", x.count(1, 1), 1);
    }

    @Sentence(in = "Description", words = "A program is read from a text of at most 120 bytes")
    static void aProgramOf120Bytes(Check check) {
        SettledInstants x = new SettledInstants();
        Check.write(x, Check.repeat(" ", 117) + "0;");
        check.due("the last byte", x.write('.'), 120);
        check.due("the first that is too much", x.write('!'), FULL);
        check.due("all 120 bytes are read", x.program(0), 1);
        check.due("and all have a meaning", x.node(0, 2, 0), '.');
        check.due("and no more are", x.count(0, 0), 3);
        check.text("", -100, 1);
        check.text(".", 1, 0);
    }

    @Sentence(in = "Description", words = "Each byte except a blank (32) is a token; blanks have no meaning")
    static void theBlankAlone(Check check) {
        for (int letter = 0; letter < 256; letter++) {
            boolean needsMore = "0.!&x?@~$*^".indexOf(letter) >= 0;
            int answer = letter == ' ' ? 1 : letter == '(' ? -102 : needsMore ? -101 : -100;
            check.text((char) letter + ".", answer, letter == ' ' ? 0 : 1);
        }
        for (int letter = 0; letter < 256; letter++) {
            int answer = letter == ' ' ? 1 : letter == ';' || letter == '|' ? -102 : -101;
            check.text("." + (char) letter, answer, letter == ' ' ? 0 : 1);
        }
        String tokens = "^{?a{!b;x0}{&c|.;$d{@e{~f{.}}}}};*{(.)}";
        SettledInstants x = Check.with(tokens, "  " + tokens.replaceAll("(.)", "$1  "));
        check.due("statements", x.count(0, 0), x.count(1, 0));
        for (int node = 0; node < x.count(0, 0); node++) {
            for (int what = 0; what < 6; what++) {
                check.due("node " + node + " with blanks, " + what, x.node(1, node, what), x.node(0, node, what));
            }
        }
    }

    @Sentence(in = "Description", words = "s is a letter a to h, d is a digit 0 to 4; braces mean repetition, also zero times; brackets mean that something may be omitted")
    static void digitsAndRepetition(Check check) {
        for (char digit = '0'; digit <= '4'; digit++) check.text("^{^{^{^{^{x" + digit + "}}}}}", 0, 0);
        for (char no : new char[] {'0' - 1, '5', '9', 'a', '.'}) check.text("^{^{^{^{^{x" + no + "}}}}}", -111, 1);
        check.text("!a", 0, 0);
        check.text("!h", 0, 0);
        check.text(".", 1, 0);
        check.text(".;.", 2, 0);
        check.text(".;.;.", 3, 0);
        check.text("?a{.}", 1, 0);
        check.text("?a{.}{.}", 2, 0);
        check.text("?a{.}{.}{.}", -108, 1);
    }

    @Sentence(in = "Description", words = "text     = parallel")
    static void aTextIsOneParallel(Check check) {
        check.text("", -100, 1);
        check.text("    ", -104, 1);
        check.text("0", 0, 0);
        check.text(" 0 ", 0, 0);
        check.text("0|0;0", 0, 0);
        for (String more : new String[] {"0", ".", "!", "(", ")", "{", "}", "a", "x"}) check.text("0|0" + more, -103, 1);
    }

    @Sentence(in = "Description", words = "parallel = sequence { '|' sequence }")
    static void parallels(Check check) {
        check.text(".", 1, 0);
        check.text(".|.", 2, 0);
        check.text("." + Check.repeat("|.", 19), 20, 0);
        check.text("0" + Check.repeat("|0", 29), 0, 0);
        check.text("|.", -100, 1);
        check.text(".|", -102, 1);
        check.text(".||.", -102, 1);
        check.text("(|.)", -101, 1);
        check.text("(.|)", -103, 1);
        SettledInstants x = Check.with("!a;!b|!c;!d");
        check.due("its operands are sequences", x.node(0, 3, 3), 6);
    }

    @Sentence(in = "Description", words = "sequence = part { ';' part }")
    static void sequences(Check check) {
        check.text(".", 1, 0);
        check.text(".;.", 2, 0);
        check.text("." + Check.repeat(";.", 19), 20, 0);
        check.text("0" + Check.repeat(";0", 29), 0, 0);
        check.text(";.", -100, 1);
        check.text(".;", -102, 1);
        check.text(".;;.", -102, 1);
        check.text(".;|.", -102, 1);
        check.text(".|;.", -102, 1);
        check.text("(.;)", -103, 1);
    }

    @Sentence(in = "Description", words = "block    = '{' parallel '}'")
    static void blocks(Check check) {
        check.text("*{.}", 1, 0);
        check.text("*{.|.;.}", 3, 0);
        check.text("*{}", -102, 1);
        check.text("*{", -102, 1);
        check.text("*{.", -103, 1);
        check.text("*{.)", -103, 1);
        check.text("*{.]", -103, 1);
        check.text("*.", -101, 1);
        check.text("*(.)", -101, 1);
        check.text("*}", -101, 1);
        check.text("*{.}}", -104, 1);
        check.text("{.}", -100, 1);
    }

    /** Every beginning of a part is a text that ends too early, unless it is a part itself. */
    @Sentence(in = "Description", words = "part     = '0' or '.' or '!' s or '&' s or 'x' d or '?' s block [ block ] or '*' block or '^' block")
    static void partsAndTheirBeginnings(Check check) {
        String[] parts = {"0", ".", "!a", "&a", "?a{.}", "?a{.}{.}", "*{.}", "^{x0}", "@a{.}", "~a{.}", "$a{.}", "(.)"};
        int[] points = {0, 1, 0, 1, 1, 2, 1, 0, 1, 1, 1, 1};
        for (int k = 0; k < parts.length; k++) {
            for (int length = 0; length < parts[k].length(); length++) {
                String beginning = parts[k].substring(0, length);
                if (!beginning.equals("?a{.}")) check.text(beginning, -100 - length, 1);
            }
            check.text(parts[k], points[k], 0);
            check.text(parts[k] + "a", -100 - parts[k].length(), 1);
        }
        check.text("?a{.};{.}", -106, 1);
        check.text("@a{.}{.}", -105, 1);
        check.text("^{.}{.}", -104, 1);
        check.text("!a{.}", -102, 1);
        check.text("0{.}", -101, 1);
        check.text("()", -101, 1);
        check.text("(.}", -102, 1);
    }

    @Sentence(in = "Description", words = "The meanings are: 0 nothing, . pause, ! emit, & await, x exit, ? choice, * loop, ^ trap, @ abort, ~ weak abort, $ local signal, ; sequence, | parallel")
    static void meanings(Check check) {
        check.course("0", 0, 0, ENDED);
        check.course(".", 0, 0, 1, 0, 0, ENDED);
        check.course("!a", 0, 1, ENDED);
        check.course("&a", 1, 1, 1, 0, 0, 1, 1, 1, ENDED);
        check.course("^{x0;!a};!b", 0, 2, ENDED);
        check.course("?a{!b}{!c}", 1, 3, ENDED);
        check.course("?a{!b}{!c}", 0, 4, ENDED);
        check.course("*{!a;.}", 0, 1, 1, 0, 1, 1, 0, 1, 1);
        check.course("@a{.;!b};!c", 0, 0, 1, 1, 5, ENDED);
        check.course("~a{.;!b;.};!c", 0, 0, 1, 1, 7, ENDED);
        check.course("$a{!a;?a{!b}}", 0, 2, ENDED);
        check.course("!a;!b", 0, 3, ENDED);
        check.course(".;!a|!b", 0, 2, 1, 0, 1, ENDED);
    }

    @Sentence(in = "Description", words = "Each of the tokens 0 . ! & x ? * ^ @ ~ $ ; | begins a statement; the statements are numbered from 0 in the order of these tokens in the text")
    static void statementsAreNumberedInTheOrderOfTheirTokens(Check check) {
        SettledInstants x = Check.with("^{?a{0}{(.)};!b;&c;x0|*{.}|@d{0}|~e{0}|$f{0}}");
        String tokens = "^?0.;!;&;x|*.|@0|~0|$0";
        check.due("number -1", x.node(0, -1, 0), UNKNOWN);
        for (int node = 0; node < tokens.length(); node++) check.due("number " + node, x.node(0, node, 0), tokens.charAt(node));
        check.due("the number behind the last", x.node(0, tokens.length(), 0), UNKNOWN);
        check.due("statements", x.count(0, 0), tokens.length());
    }

    @Sentence(in = "Description", words = "There are at most 60")
    static void sixtyStatements(Check check) {
        String fiftyNine = "^{" + Check.repeat("0;", 29);
        SettledInstants x = Check.with(fiftyNine + "!h}");
        check.due("statements", x.count(0, 0), 60);
        check.due("the 60th", x.node(0, 59, 1), 7);
        check.due("the 61st", x.node(0, 60, 0), UNKNOWN);
        check.due("the 60th is executed", x.instant(0, 0), 128);
        check.text(fiftyNine + "0;!h}", -161, 3);
    }

    @Sentence(in = "Description", words = "The statements ; and | have two operands, left and right, and are grouped from the left: in a;b;c the operands of the second ; are a;b and c")
    static void groupedFromTheLeft(Check check) {
        for (String joint : new String[] {";", "|"}) {
            SettledInstants x = Check.with("." + joint + "." + joint + ".");
            check.due("the first contains", x.node(0, 1, 2), 3);
            check.due("the second contains", x.node(0, 3, 2), 7);
            check.due("the second contains so many", x.node(0, 3, 3), 4);
            check.due("the first is contained", x.node(0, 1, 5), 1);
            check.due("the last is contained", x.node(0, 4, 5), 1);
            x = Check.with("." + joint + "(." + joint + ".)");
            check.due("brackets: the first contains", x.node(0, 1, 2), 7);
            check.due("brackets: the second contains", x.node(0, 3, 2), 6);
        }
        SettledInstants x = Check.with(".|.;.|.");
        check.due("the first | contains", x.node(0, 1, 2), 7);
        check.due("the ; contains", x.node(0, 3, 2), 6);
        check.due("the second | contains", x.node(0, 5, 2), 15);
    }

    @Sentence(in = "Description", words = "if the second one is omitted it does nothing (this is not a statement and has no number)")
    static void anOmittedBranch(Check check) {
        SettledInstants x = Check.with("?a{!b};!c");
        check.due("statements", x.count(0, 0), 4);
        check.due("it contains", x.node(0, 0, 3), 1);
        check.due("behind the branch", x.node(0, 2, 0), ';');
        check.due("absent", x.would(0, 0, 0), 4);
        check.due("absent: code", x.would(0, 0, 2), 0);
        check.due("present", x.would(0, 1, 0), 7);
        check.due("its codes", Check.with("?a{.}").node(0, 0, 4), 3);
        x = Check.with("?a{!b}{0};!c");
        check.due("statements if it is not omitted", x.count(0, 0), 5);
        check.due("it contains if it is not omitted", x.node(0, 0, 3), 2);
    }

    @Sentence(in = "Description", words = "A statement contains its operands, its branches or its block, and what these contain")
    static void notItself(Check check) {
        SettledInstants x = Check.with("?a{*{.}}{0};!b");
        int[] contained = {3, 1, 0, 0, 5, 0};
        int[] containing = {1, 2, 3, 2, 0, 1};
        for (int node = 0; node < 6; node++) {
            check.due("contained in " + node, x.node(0, node, 3), contained[node]);
            check.due("containing " + node, x.node(0, node, 5), containing[node]);
        }
        x = Check.with("0");
        check.due("a statement alone contains", x.node(0, 0, 3), 0);
        check.due("a statement alone is contained in", x.node(0, 0, 5), 0);
    }

    @Sentence(in = "Description", words = "The pauses and awaits are the pause points; they are numbered from 0 in the order of their tokens")
    static void pausePointsAreNumbered(Check check) {
        SettledInstants x = Check.with("!a;.;0;?b{&c}{.};^{x0}");
        int[] points = {0, 1, 1, 1, 0, 7, 6, 2, 4, 7, 0, 0};
        for (int node = 0; node < points.length; node++) {
            check.due("pause points of " + node, x.node(0, node, 2), points[node]);
        }
        check.due("their number", x.count(0, 1), 3);
        check.due("none", Check.with("!a;0").count(0, 1), 0);
        check.course("!a;.;0;?b{&c}{.};!d", 0, 1, 1, 2, 2, 2, 4, 12, ENDED);
        check.course("!a;.;0;?b{&c}{.};!d", 0, 1, 1, 0, 0, 4, 0, 8, ENDED);
    }

    @Sentence(in = "Description", words = "There are at most 20")
    static void twentyPausePoints(Check check) {
        check.text("." + Check.repeat("|.", 19), 20, 0);
        check.text("&a" + Check.repeat("|&a", 19), 20, 0);
        check.text("." + Check.repeat("|.", 20), -140, 3);
        check.text("&a" + Check.repeat("|&a", 20), -160, 3);
        SettledInstants x = Check.with("0" + Check.repeat("|.", 20) + "|0");
        check.due("20 and others", x.count(0, 1), 20);
        check.due("they all are points of the state", x.would(0, 0, 3), 1048575);
    }

    @Sentence(in = "Description", words = "The state of a program is START (1048576) after it has been read; then it is the set of the pause points at which it rests, and the state ENDED (0) if it rests at none")
    static void fromStartToEnded(Check check) {
        SettledInstants x = Check.with("." + Check.repeat("|.", 19), "0");
        check.due("START", x.state(0), START);
        x.instant(0, 0);
        check.due("at all pause points", x.state(0), START - 1);
        x.instant(0, 0);
        check.due("at none", x.state(0), ENDED);
        check.due("START without pause points", x.state(1), START);
        x.instant(1, 0);
        check.due("ENDED without pause points", x.state(1), ENDED);
        check.course(Check.repeat("0;", 3) + Check.repeat(".;", 19) + ".", 0, 0, 1, 0, 0, 2, 0, 0, 4);
    }
}

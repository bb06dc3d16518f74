/** What the document says of the faults 1 to 5 and their places. */
final class FaultBoundaries {
    private static final String SIXTY = Check.repeat("0;", 30);

    @Sentence(in = "Description", words = "The faults of a text are found from left to right: the first token that has one of the faults 1 to 4 decides, and of several faults of one token the lowest number")
    static void theFirstTokenAndItsLowestFault(Check check) {
        String twelve = Check.repeat("(", 12);
        String three = "$a{$b{$c{";
        check.text("x0;!z", -101, 2);
        check.text("!z;x0", -101, 1);
        check.text(SIXTY + "0;x0)", -160, 3);
        check.text("x0;" + SIXTY, -101, 2);
        check.text(twelve + "(x0", -112, 4);
        check.text(twelve + "x0;(", -113, 2);
        check.text(three + "$d{!z", -109, 4);
        check.text(three + "!z;$d{", -110, 1);
        // 1 and 2
        check.text("^{x5", -103, 1);
        check.text("x9", -101, 1);
        // 1 and 3, for a statement and for a pause point
        check.text(SIXTY + ";", -160, 1);
        check.text("^{" + Check.repeat("0;", 29) + "0*", -161, 1);
        check.text(Check.repeat(".;", 19) + "..", -139, 1);
        check.text(Check.repeat(".;", 19) + ".&", -139, 1);
        // 1 and 4, for both brackets and for a local signal
        check.text(twelve + "{", -112, 1);
        check.text(twelve + "0(", -113, 1);
        check.text(three + "0$", -110, 1);
        // 3 and 4
        check.text(three + "^{" + Check.repeat("0;", 28) + "$", -167, 3);
        check.text(three + Check.repeat("0;", 28) + "$", -165, 4);
    }

    @Sentence(in = "Description", words = "If there is no such token, fault 5 is looked for")
    static void fault5IsTheLast(Check check) {
        check.text("*{0}", -100, 5);
        check.text("*{0};x0", -106, 2);
        check.text("*{0};^{x0}", -100, 5);
        check.text("*{0}}", -104, 1);
        check.text("*{0};", -105, 1);
        check.text("*{0", -103, 1);
        check.text("*{0;" + SIXTY, -161, 3);
        check.text("*{0};" + Check.repeat("(", 13), -117, 4);
    }

    @Sentence(in = "Description", words = "1: the token cannot stand there, or the text ends too early (then the place of the fault is the length of the text)")
    static void fault1(Check check) {
        check.text("", -100, 1);
        check.text(" ", -101, 1);
        check.text(Check.repeat(" ", 120), -220, 1);
        check.text(Check.repeat(" ", 119) + "!", -220, 1);
        check.text(Check.repeat(" ", 119) + ")", -219, 1);
        check.text(Check.repeat(" ", 119) + ".", 1, 0);
        check.text("!", -101, 1);
        check.text("!  ", -103, 1);
        check.text("x ", -102, 1);
        check.text("(0  ", -104, 1);
        check.text("(0)  ", 0, 0);
        check.text("^{0", -103, 1);
        check.text("0;", -102, 1);
        check.text("?a", -102, 1);
        check.text("?a{0}{", -106, 1);
    }

    @Sentence(in = "Description", words = "2: the digit d of an exit that is contained in d traps or fewer")
    static void fault2(Check check) {
        for (int digit = 0; digit <= 4; digit++) {
            for (int traps = 0; traps <= 6; traps++) {
                String text = Check.repeat("^{", traps) + "x" + digit + Check.repeat("}", traps);
                boolean refused = traps <= digit;
                check.text(text, refused ? -101 - 2 * traps : 0, refused ? 2 : 0);
            }
        }
        // what is no trap around the exit does not count
        check.text("^{0};x0", -106, 2);
        check.text("^{^{0};x1}", -108, 2);
        check.text("x0;^{0}", -101, 2);
        check.text("@a{?b{$c{*{(x0)}}}}", -113, 2);
        check.text("^{@a{?b{$c{*{(x0)}}}}}", 0, 0);
        check.text("^{?a{^{x1}}{x1}}", -113, 2);
    }

    @Sentence(in = "Description", words = "3: a token of a statement with the number 60, or of a pause point with the number 20")
    static void fault3(Check check) {
        for (String token : new String[] {"0", ".", "!a", "&a", "x0", "?a{0}", "*{.}", "^{0}", "@a{0}", "~a{0}", "$a{0}"}) {
            check.text(SIXTY + token, -160, 3);
        }
        String sixty = "^{" + Check.repeat("0;", 29) + "0";
        check.text(sixty + ";0}", -161, 3);
        check.text(sixty + "|0}", -161, 3);
        check.text(sixty + "}", 0, 0);
        // the digit of the 60th statement is not a statement
        check.text("^{" + Check.repeat("0;", 29) + "x0}", 0, 0);
        check.text("^{" + Check.repeat("0;", 29) + ".}", 1, 0);
        check.text("^{" + Check.repeat("0;", 29) + "!a}", 0, 0);
        check.text("^{" + Check.repeat("0;", 29) + "&a}", 1, 0);
        for (String token : new String[] {"?a", "^", "@a", "~a", "$a"}) {
            check.text(Check.repeat("0;", 29) + token + "{0}", 0, 0);
            check.text("^{" + Check.repeat("0;", 29) + token + "{0}}", -161 - token.length(), 3);
        }
        String twenty = Check.repeat(".;", 19) + "&a;";
        check.text(twenty + "0", 20, 0);
        check.text(twenty + "!a;^{x0}", 20, 0);
        check.text(twenty + ".", -141, 3);
        check.text(twenty + "&a", -141, 3);
        check.text(twenty + "0;.", -143, 3);
        check.text(twenty + Check.repeat("0;", 10) + ".", -161, 3);
    }

    @Sentence(in = "Description", words = "4: a { or ( inside twelve pairs of such brackets, or a $ inside three local signals")
    static void fault4(Check check) {
        for (int pairs = 11; pairs <= 13; pairs++) {
            check.text(Check.repeat("(", pairs) + "0" + Check.repeat(")", pairs), pairs > 12 ? -112 : 0, pairs > 12 ? 4 : 0);
            check.text(Check.repeat("^{", pairs) + "0" + Check.repeat("}", pairs), pairs > 12 ? -125 : 0, pairs > 12 ? 4 : 0);
        }
        String six = Check.repeat("(^{", 6), end = Check.repeat("})", 6);
        check.text(six + "0" + end, 0, 0);
        check.text(six + "(0)" + end, -118, 4);
        check.text(six + "^{0}" + end, -119, 4);
        check.text(six + "?a{0}" + end, -120, 4);
        // pairs that are closed do not count
        check.text(Check.repeat("(0);", 14) + "(0)", 0, 0);
        check.text(Check.repeat("(", 11) + "(0);(0);?a{0}{0}" + Check.repeat(")", 11), 0, 0);
        check.text(Check.repeat("(", 11) + "(0);(0);?a{0}{(0)}" + Check.repeat(")", 11), -125, 4);
        check.text("$a{$b{$c{0}}}", 0, 0);
        check.text("$a{$b{$c{$d{0}}}}", -109, 4);
        check.text("$a{$b{$c{^{(@a{0;$d", -117, 4);
        check.text("$a{$b{$c{0};$d{0}};$e{$f{0}}};$g{0}", 0, 0);
        check.text("$a{$b{$c{0};$d{$e", -115, 4);
        check.text("$a{$a{$a{0}}}", 0, 0);
        check.text("$a{$a{$a{$a{0}}}}", -109, 4);
        check.text("$a{$b{?c{$c{0}}{$c{0}}}}", 0, 0);
    }

    @Sentence(in = "Description", words = "5: the first loop, in the order of the statements, whose block has the code 0 among its instantaneous codes")
    static void fault5(Check check) {
        check.text("*{.}", 1, 0);
        check.text("*{0}", -100, 5);
        check.text("*{.};*{0};*{0}", -105, 5);
        check.text("*{*{0}}", -100, 5);
        check.text("*{.;*{0}}", -104, 5);
        check.text("*{*{.};0}", 1, 0);
        check.text("*{?a{*{0}}}", -100, 5);
        check.text("*{?a{*{0}}{.}}", -100, 5);
        // an await does not end in the instant in which it starts
        check.text("*{&a}", 1, 0);
        check.text("*{?a{.}}", -100, 5);
        check.text("*{?a{.}{.}}", 2, 0);
        check.text("*{^{x0}}", -100, 5);
        check.text("^{*{x0}}", 0, 0);
        check.text("*{.|0}", 1, 0);
        check.text("*{0|0}", -100, 5);
        // the block is not certainly executed, so that its local signal is unknown although it must be emitted
        check.text("*{$a{!a;?a{.}}}", -100, 5);
        check.text("*{$a{?a{0}{.}}}", 1, 0);
        check.text("$a{*{?a{0}{.}}}", -103, 5);
    }

    @Sentence(in = "Description", words = "The place of a fault is the index of its token in the text, counted from 0, blanks included")
    static void thePlaceOfAFault(Check check) {
        check.text(")", -100, 1);
        check.text("  )", -102, 1);
        check.text(". )", -102, 1);
        check.text(Check.repeat(" ", 119) + "}", -219, 1);
        check.text(Check.repeat(" ", 118) + "x0", -219, 2);
        check.text("  x  0", -105, 2);
        check.text(" " + Check.repeat(".;", 20) + " .", -142, 3);
        check.text(" " + Check.repeat("(", 12) + " (", -114, 4);
        check.text("  $a{$b{$c{ $d", -112, 4);
        check.text("  *  { 0 }", -102, 5);
        check.text(Check.repeat(" ", 116) + "*{0}", -216, 5);
    }
}

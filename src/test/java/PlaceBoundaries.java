/** What the document says of the place of a program in the promises 6 to 15, 17 and 18. */
final class PlaceBoundaries {
    private static final int UNKNOWN = -1000001;
    private static final int[] NO_PLACES = {-1, 2, 3, 256, Integer.MIN_VALUE, Integer.MAX_VALUE};

    private interface Asked {
        int at(SettledInstants x, int place);
    }

    /** At place 0 two instants were executed, at place 1 one. */
    private static SettledInstants both() {
        SettledInstants x = Check.with(".;.;!a;?c{!c}", ".;!b;?d{!d};?e{!e}");
        x.instant(0, 0);
        x.instant(0, 0);
        x.instant(1, 0);
        return x;
    }

    private static void places(Check check, Asked asked, int atZero, int atOne) {
        check.due("at place 0", asked.at(both(), 0), atZero);
        check.due("at place 1", asked.at(both(), 1), atOne);
        for (int place : NO_PLACES) check.due("at place " + place, asked.at(both(), place), UNKNOWN);
    }

    private static void unknown(Check check, Asked asked) {
        for (int place : NO_PLACES) {
            new Refusal(check, PlaceBoundaries::both).due("no such place, " + place, x -> asked.at(x, place), UNKNOWN);
        }
        for (int place = 0; place < 2; place++) {
            int empty = place;
            new Refusal(check, Refusal::ofNew).due("no program at " + place, x -> asked.at(x, empty), UNKNOWN);
            new Refusal(check, Refusal::withText).due("only a text for " + place, x -> asked.at(x, empty), UNKNOWN);
            new Refusal(check, () -> besides(empty)).due("a program besides " + place, x -> asked.at(x, empty), UNKNOWN);
        }
    }

    /** A program at the other place alone. */
    private static SettledInstants besides(int empty) {
        SettledInstants x = new SettledInstants();
        Check.read(x, 1 - empty, ".;.;!a");
        x.instant(1 - empty, 0);
        return x;
    }

    @Sentence(in = "Promise 6", words = "`place`: the place of the program")
    static void placesOfInstant(Check check) {
        places(check, (x, p) -> x.instant(p, 28), 29, 30);
    }

    @Sentence(in = "Promise 6", words = "UNKNOWN")
    static void unknownInstant(Check check) {
        unknown(check, (x, p) -> x.instant(p, 28));
    }

    @Sentence(in = "Promise 7", words = "`place`: the place of the program")
    static void placesOfUndo(Check check) {
        places(check, (x, p) -> x.undo(p), 1, 0);
    }

    @Sentence(in = "Promise 7", words = "UNKNOWN")
    static void unknownUndo(Check check) {
        unknown(check, (x, p) -> x.undo(p));
    }

    @Sentence(in = "Promise 8", words = "`place`: the place of the program")
    static void placesOfRestart(Check check) {
        places(check, (x, p) -> x.restart(p), 2, 1);
    }

    @Sentence(in = "Promise 8", words = "UNKNOWN")
    static void unknownRestart(Check check) {
        unknown(check, (x, p) -> x.restart(p));
    }

    @Sentence(in = "Promise 9", words = "`place`: the place of the program")
    static void placesOfState(Check check) {
        places(check, (x, p) -> x.state(p), 2, 1);
    }

    @Sentence(in = "Promise 9", words = "UNKNOWN")
    static void unknownState(Check check) {
        unknown(check, (x, p) -> x.state(p));
    }

    @Sentence(in = "Promise 10", words = "`place`: the place of the program")
    static void placesOfWould(Check check) {
        places(check, (x, p) -> x.would(p, 28, 0), 29, 30);
    }

    @Sentence(in = "Promise 10", words = "UNKNOWN")
    static void unknownWould(Check check) {
        unknown(check, (x, p) -> x.would(p, 28, 0));
    }

    @Sentence(in = "Promise 11", words = "`place`: the place of the program")
    static void placesOfFound(Check check) {
        places(check, (x, p) -> x.found(p, 0, 0, 1), 5, 26);
    }

    @Sentence(in = "Promise 11", words = "UNKNOWN")
    static void unknownFound(Check check) {
        unknown(check, (x, p) -> x.found(p, 0, 0, 1));
    }

    @Sentence(in = "Promise 12", words = "`place`: the place of the program")
    static void placesOfWaits(Check check) {
        places(check, (x, p) -> x.waits(p, 0, 2), 4, 0);
    }

    @Sentence(in = "Promise 12", words = "UNKNOWN")
    static void unknownWaits(Check check) {
        unknown(check, (x, p) -> x.waits(p, 0, 2));
    }

    @Sentence(in = "Promise 13", words = "`place`: the place of the program")
    static void placesOfRing(Check check) {
        places(check, (x, p) -> x.ring(p, 0), 4, 8);
    }

    @Sentence(in = "Promise 13", words = "UNKNOWN")
    static void unknownRing(Check check) {
        unknown(check, (x, p) -> x.ring(p, 0));
    }

    @Sentence(in = "Promise 14", words = "`place`: the place of the program")
    static void placesOfStates(Check check) {
        places(check, (x, p) -> x.states(p, 1, 0), 3, 2);
    }

    @Sentence(in = "Promise 14", words = "UNKNOWN")
    static void unknownStates(Check check) {
        unknown(check, (x, p) -> x.states(p, 1, 0));
    }

    @Sentence(in = "Promise 15", words = "`place`: the place of the program")
    static void placesOfSoon(Check check) {
        places(check, (x, p) -> x.soon(p, 28, 0), 1, -1);
    }

    @Sentence(in = "Promise 15", words = "UNKNOWN")
    static void unknownSoon(Check check) {
        unknown(check, (x, p) -> x.soon(p, 28, 0));
    }

    @Sentence(in = "Promise 17", words = "`place`: the place of the program")
    static void placesOfNode(Check check) {
        places(check, (x, p) -> x.node(p, 2, 0), '.', '!');
    }

    @Sentence(in = "Promise 17", words = "UNKNOWN if there is no such program or statement")
    static void unknownNode(Check check) {
        unknown(check, (x, p) -> x.node(p, 2, 0));
    }

    @Sentence(in = "Promise 18", words = "`place`: the place of the program")
    static void placesOfCount(Check check) {
        places(check, (x, p) -> x.count(p, 0), 8, 9);
    }

    @Sentence(in = "Promise 18", words = "UNKNOWN if there is no program at the place (for what 4, too)")
    static void unknownCount(Check check) {
        unknown(check, (x, p) -> x.count(p, 0));
    }
}

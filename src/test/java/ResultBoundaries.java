import java.util.List;
import java.util.function.Supplier;

/** What the document says of masks, of explorations and of the error codes. */
final class ResultBoundaries {
    private static final int NONE = -1, UNKNOWN = -1000001, OUTSIDE = -1000002, NOT = -1000003, FULL = -1000004;
    /** START and loops of 9 and 11 pauses: 100 states; with a ENDED is the 101st. */
    private static final String HUNDRED = "@a{*{" + Check.repeat(".;", 8) + ".}|*{" + Check.repeat(".;", 10) + ".}}";

    @Sentence(in = "Description", words = "A mask is a set of one to three signals")
    static void masks(Check check) {
        for (int mask = -300; mask <= 600; mask++) {
            SettledInstants x = Check.with("0", "0");
            int signals = Integer.bitCount(mask);
            boolean is = mask >= 0 && mask < 256 && signals >= 1 && signals <= 3;
            check.due("states(0, " + mask + ", 0)", x.states(0, mask, 0), is ? 2 : OUTSIDE);
            check.due("soon(0, " + mask + ", 8)", x.soon(0, mask, 8), is ? 1 : OUTSIDE);
            check.due("part(" + mask + ")", x.part(mask), is ? NONE : OUTSIDE);
        }
        SettledInstants x = Check.with("0", "0");
        for (int mask : new int[] {Integer.MIN_VALUE, Integer.MIN_VALUE + 1, 1 << 8, 1 << 16, 1 << 30, Integer.MAX_VALUE}) {
            check.due("states(0, " + mask + ", 0)", x.states(0, mask, 0), OUTSIDE);
            check.due("soon(0, " + mask + ", 8)", x.soon(0, mask, 8), OUTSIDE);
            check.due("part(" + mask + ")", x.part(mask), OUTSIDE);
        }
    }

    @Sentence(in = "Description", words = "all instants are considered whose signals from outside are a subset of the mask, in increasing order of the subsets as numbers; the states are considered in the order in which they are reached (breadth first)")
    static void subsetsAndTheirOrder(Check check) {
        SettledInstants x = Check.with("$h{?h{!h}}");
        for (int mask = 1; mask < 256; mask++) {
            int signals = Integer.bitCount(mask);
            if (signals <= 3) check.due("subsets of " + mask, x.states(0, mask, 2), 1 << signals);
        }
        check.due("the empty subset", Check.with("?a{0}{!b}").soon(0, 1, 1), 1);
        check.due("the whole mask", Check.with("?a{?d{?h{!b}}}").soon(0, 137, 1), 1);
        check.due("nothing beyond the mask", Check.with("?a{?d{?h{!b}}}").soon(0, 9, 1), NONE);
        check.due("no short way is missed", Check.with("?a{.;!b}{.;.;.;!b}").soon(0, 1, 1), 2);
        // the 100th state: without a it leads to the 101st one, with a the event occurs
        String loops = "*{!b;.;.;.}|*{.;.;.;.;!c;.}|*{.;?b{?c{s}};.;.;.;.;.;.}";
        check.due("the smaller subset comes first", Check.with(loops.replace("s", "?a{!h}")).soon(0, 1, 7), FULL);
        check.due("the event comes first", Check.with(loops.replace("s", "?a{0}{!h}")).soon(0, 1, 7), 100);
        check.due("a rejected one comes first", Check.with(loops.replace("s", "?a{!h}{?d{!d}}")).soon(0, 1, 7), 100);
    }

    @Sentence(in = "Description", words = "A rejected instant leads to no state")
    static void rejectedLeadsNowhere(Check check) {
        check.due("START alone", Check.with("?a{!a}|.").states(0, 2, 0), 1);
        check.due("START and ENDED", Check.with("?a{!a}").states(0, 1, 0), 2);
        check.due("no end", Check.with("?a{!a}").soon(0, 2, 8), NONE);
        check.due("no pairs", Check.with("?a{!a};.;!b", "?a{!a};.;!c").part(8), NONE);
    }

    @Sentence(in = "Description", words = "The error codes are UNKNOWN (-1000001): there is no such place, no program there, or no such statement; OUTSIDE (-1000002): another argument is out of range; NOT (-1000003): the request is impossible, as described; FULL (-1000004): a limit would be exceeded")
    static void theCodes(Check check) {
        check.due("UNKNOWN", SettledInstants.UNKNOWN, -1000001);
        check.due("OUTSIDE", SettledInstants.OUTSIDE, -1000002);
        check.due("NOT", SettledInstants.NOT, -1000003);
        check.due("FULL", SettledInstants.FULL, -1000004);
        SettledInstants x = Check.with(HUNDRED);
        check.due("no such place", x.state(2), UNKNOWN);
        check.due("no program there", x.state(1), UNKNOWN);
        check.due("no such statement", x.node(0, 60, 0), UNKNOWN);
        check.due("out of range", x.instant(0, 256), OUTSIDE);
        check.due("impossible", x.undo(0), NOT);
        check.due("a limit", x.states(0, 1, 0), FULL);
    }

    @Sentence(in = "Description", words = "A method that returns an error code changes nothing")
    static void errorsChangeNothing(Check check) {
        for (Supplier<SettledInstants> past : List.<Supplier<SettledInstants>>of(
                Refusal::ofNew, Refusal::withText, Refusal::busy, Refusal::full)) {
            Refusal refusal = new Refusal(check, past);
            refusal.due("write(256)", x -> x.write(256), OUTSIDE);
            refusal.due("write(-1)", x -> x.write(-1), OUTSIDE);
            for (int wrong : new int[] {-1, 2}) wrongPlace(refusal, wrong);
            refusal.due("part(0), or no program", x -> x.part(0), past.get().state(1) == UNKNOWN ? UNKNOWN : OUTSIDE);
        }
        wrongPlace(new Refusal(check, Refusal::ofNew), 0);
        wrongPlace(new Refusal(check, Refusal::withText), 1);
        for (Supplier<SettledInstants> past : List.<Supplier<SettledInstants>>of(Refusal::busy, Refusal::full)) {
            wrongArguments(new Refusal(check, past), 0);
            wrongArguments(new Refusal(check, past), 1);
        }
        impossible(check);
    }

    private static void wrongPlace(Refusal refusal, int place) {
        if (place < 0 || place > 1) refusal.due("program(" + place + ")", x -> x.program(place), UNKNOWN);
        refusal.due("instant(" + place + ", 0)", x -> x.instant(place, 0), UNKNOWN);
        refusal.due("undo(" + place + ")", x -> x.undo(place), UNKNOWN);
        refusal.due("restart(" + place + ")", x -> x.restart(place), UNKNOWN);
        refusal.due("state(" + place + ")", x -> x.state(place), UNKNOWN);
        refusal.due("would(" + place + ", 0, 0)", x -> x.would(place, 0, 0), UNKNOWN);
        refusal.due("found(" + place + ", 0, 0, 0)", x -> x.found(place, 0, 0, 0), UNKNOWN);
        refusal.due("waits(" + place + ", 0, 0)", x -> x.waits(place, 0, 0), UNKNOWN);
        refusal.due("ring(" + place + ", 0)", x -> x.ring(place, 0), UNKNOWN);
        refusal.due("states(" + place + ", 1, 0)", x -> x.states(place, 1, 0), UNKNOWN);
        refusal.due("soon(" + place + ", 1, 8)", x -> x.soon(place, 1, 8), UNKNOWN);
        refusal.due("node(" + place + ", 0, 0)", x -> x.node(place, 0, 0), UNKNOWN);
        refusal.due("count(" + place + ", 0)", x -> x.count(place, 0), UNKNOWN);
    }

    private static void wrongArguments(Refusal refusal, int place) {
        refusal.due("instant(place, 256)", x -> x.instant(place, 256), OUTSIDE);
        refusal.due("instant(place, -1)", x -> x.instant(place, -1), OUTSIDE);
        refusal.due("would(place, 256, 0)", x -> x.would(place, 256, 0), OUTSIDE);
        refusal.due("would(place, 0, 5)", x -> x.would(place, 0, 5), OUTSIDE);
        refusal.due("found(place, 1, 1, 0)", x -> x.found(place, 1, 1, 0), OUTSIDE);
        refusal.due("waits(place, 0, 8)", x -> x.waits(place, 0, 8), OUTSIDE);
        refusal.due("ring(place, 256)", x -> x.ring(place, 256), OUTSIDE);
        refusal.due("states(place, 15, 0)", x -> x.states(place, 15, 0), OUTSIDE);
        refusal.due("soon(place, 1, 0)", x -> x.soon(place, 1, 0), OUTSIDE);
        refusal.due("part(15)", x -> x.part(15), OUTSIDE);
        refusal.due("node(place, 0, 6)", x -> x.node(place, 0, 6), OUTSIDE);
        refusal.due("node(place, 60, 0)", x -> x.node(place, 60, 0), UNKNOWN);
        refusal.due("count(place, 5)", x -> x.count(place, 5), OUTSIDE);
    }

    private static void impossible(Check check) {
        new Refusal(check, Refusal::busy).due("a rejected instant", x -> x.instant(1, 0), NOT);
        new Refusal(check, Refusal::busy).due("a rejected instant that would be", x -> x.would(1, 0, 3), NOT);
        new Refusal(check, Refusal::busy).due("nothing to undo", x -> x.undo(1), NOT);
        new Refusal(check, Refusal::full).due("no analysis in ENDED", x -> x.found(1, 0, 0, 0), NOT);
        new Refusal(check, Refusal::full).due("a byte too much", x -> x.write('.'), FULL);
        Refusal large = new Refusal(check, ResultBoundaries::large);
        large.due("too many states", x -> x.states(0, 1, 1), FULL);
        large.due("too many states before an event", x -> x.soon(1, 1, 9), FULL);
        large.due("too many pairs", x -> x.part(1), FULL);
    }

    /** Two programs that have too many states each, and too many pairs of them. */
    private static SettledInstants large() {
        SettledInstants x = Check.with(HUNDRED, "*{.;.;.}|*{.;.;.;.;.}|*{.;.;.;.;.;.;.}");
        x.instant(0, 0);
        Check.write(x, "!a");
        return x;
    }

    @Sentence(in = "Description", words = "If several error codes apply, the first one in this order is returned")
    static void theFirstErrorCode(Check check) {
        SettledInstants x = Check.with(HUNDRED, "!b;?a{!a}");
        SettledInstants ended = Check.with("0");
        ended.instant(0, 0);
        for (int place : new int[] {-1, 2}) {
            check.due("instant: UNKNOWN, OUTSIDE", x.instant(place, 256), UNKNOWN);
            check.due("would: UNKNOWN, OUTSIDE", x.would(place, 256, 5), UNKNOWN);
            check.due("found: UNKNOWN, OUTSIDE", x.found(place, 256, 256, 4), UNKNOWN);
            check.due("waits: UNKNOWN, OUTSIDE", x.waits(place, 256, 8), UNKNOWN);
            check.due("ring: UNKNOWN, OUTSIDE", x.ring(place, 256), UNKNOWN);
            check.due("states: UNKNOWN, OUTSIDE", x.states(place, 0, 3), UNKNOWN);
            check.due("soon: UNKNOWN, OUTSIDE", x.soon(place, 0, 10), UNKNOWN);
            check.due("node: UNKNOWN, OUTSIDE", x.node(place, 0, 6), UNKNOWN);
            check.due("count: UNKNOWN, OUTSIDE", x.count(place, 5), UNKNOWN);
        }
        check.due("node: no such statement, OUTSIDE", x.node(0, 60, 6), UNKNOWN);
        check.due("part: UNKNOWN, OUTSIDE", ended.part(0), UNKNOWN);
        check.due("undo: UNKNOWN, NOT", ended.undo(1), UNKNOWN);
        check.due("instant: OUTSIDE, NOT", x.instant(1, 256), OUTSIDE);
        check.due("would: OUTSIDE, NOT", x.would(1, 256, 0), OUTSIDE);
        check.due("found: OUTSIDE, NOT", ended.found(0, 0, 0, 4), OUTSIDE);
        check.due("found: both sets, NOT", ended.found(0, 1, 1, 0), OUTSIDE);
        check.due("states: OUTSIDE, FULL", x.states(0, 1, 3), OUTSIDE);
        check.due("soon: OUTSIDE, FULL", x.soon(0, 1, 0), OUTSIDE);
        SettledInstants full = Refusal.full();
        check.due("write: OUTSIDE, FULL", full.write(256), OUTSIDE);
        check.due("write: OUTSIDE, FULL", full.write(-1), OUTSIDE);
        check.due("write: FULL", full.write(255), FULL);
    }

    @Sentence(in = "Description", words = "NONE (-1) is not an error code; it means that there is none, and it is returned only if no error code applies")
    static void none(Check check) {
        check.due("NONE", SettledInstants.NONE, -1);
        SettledInstants x = Check.with("0;.", "0;.");
        check.due("ring", x.ring(0, 0), NONE);
        check.due("ring: OUTSIDE", x.ring(0, 256), OUTSIDE);
        check.due("ring: UNKNOWN", x.ring(2, 0), UNKNOWN);
        check.due("soon", x.soon(0, 1, 7), NONE);
        check.due("soon: OUTSIDE", x.soon(0, 128, 7), OUTSIDE);
        check.due("soon: UNKNOWN", x.soon(2, 1, 7), UNKNOWN);
        check.due("soon: FULL", Check.with(HUNDRED).soon(0, 1, 9), FULL);
        check.due("part", x.part(1), NONE);
        check.due("part: OUTSIDE", x.part(0), OUTSIDE);
        check.due("part: UNKNOWN", Check.with("0").part(1), UNKNOWN);
        check.due("node", x.node(0, 0, 1), NONE);
        check.due("node: OUTSIDE", x.node(0, 0, -1), OUTSIDE);
        check.due("node: UNKNOWN", x.node(0, 3, 1), UNKNOWN);
    }
}

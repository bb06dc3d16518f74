import java.util.Random;
import java.util.TreeMap;

/** Long runs of calls, made from fixed seeds, in which the class must answer as the Model does. */
public final class ModelRuns {
    private static final int RUNS = Integer.getInteger("runs", 1000);
    private static final long FIRST_SEED = Long.getLong("seed", 1L);

    private final Random random;
    private final SettledInstants x = new SettledInstants();
    private final Model model = new Model();
    private final StringBuilder told = new StringBuilder();
    private final TreeMap<String, Integer> kinds;
    private int calls = 0;
    private boolean wrong = false;

    private ModelRuns(long seed, TreeMap<String, Integer> kinds) {
        random = new Random(seed);
        this.kinds = kinds;
    }

    public static void main(String[] args) {
        Check check = new Check();
        TreeMap<String, Integer> kinds = new TreeMap<>();
        for (long seed = FIRST_SEED; seed < FIRST_SEED + RUNS; seed++) {
            ModelRuns run = new ModelRuns(seed, kinds);
            run.go();
            check.due("run of seed " + seed, run.wrong ? 1 : 0, 0);
        }
        if (args.length > 0) kinds.forEach((kind, times) -> System.out.println(kind + " " + times));
        check.end("ModelRuns");
    }

    private void go() {
        while (calls < 512 && !wrong) {
            if (random.nextInt(14) == 0 || calls < 3) readText();
            else ask();
        }
    }

    private void same(String call, int got, int want) {
        calls++;
        told.append(call).append(" = ").append(want).append('\n');
        String kind = call.substring(0, call.indexOf('('));
        if (kind.equals("would") || kind.equals("states")) kind += call.charAt(call.length() - 2);
        String answer = want < -1000 ? "error " + -(want + 1000000) : want <= -100 ? "fault" : want == -1 ? "none" : want == 0 ? "0" : "other";
        if (kind.equals("would1") && want == 256) answer = "256";
        kinds.merge(kind + " " + answer, 1, Integer::sum);
        if (got != want && !wrong) {
            wrong = true;
            System.out.println(told + "but the answer was " + got);
        }
    }

    private void readText() {
        String text = random.nextInt(12) == 0 ? noise() : new Texts(random).text();
        if (random.nextInt(10) == 0) text = spoiled(text);
        if (text.length() > 120 && random.nextInt(8) != 0) return;
        told.append("text ").append(text).append('\n');
        for (int i = 0; i < text.length(); i++) {
            int got = x.write(text.charAt(i)), want = model.write(text.charAt(i));
            if (got != want) same("write(" + (int) text.charAt(i) + ")", got, want);
        }
        int place = random.nextInt(25) == 0 ? 2 : random.nextInt(2);
        same("program(" + place + ")", x.program(place), model.program(place));
        same("fault()", x.fault(), model.fault());
        calls += random.nextInt(20);
        if (place == 2) same("erase()", x.erase(), model.erase());
    }

    private String noise() {
        StringBuilder made = new StringBuilder();
        String tokens = "0.!&x?*^@~$;|(){}abh01 4";
        for (int length = random.nextInt(14); length > 0; length--) made.append(tokens.charAt(random.nextInt(tokens.length())));
        return made.toString();
    }

    private String spoiled(String text) {
        StringBuilder made = new StringBuilder(text);
        int at = random.nextInt(made.length() + 1);
        switch (random.nextInt(3)) {
            case 0: made.insert(at, noise()); break;
            case 1: made.setLength(at); break;
            default: if (at < made.length()) made.deleteCharAt(at);
        }
        return made.toString();
    }

    private int place() {
        return random.nextInt(40) == 0 ? random.nextInt(7) - 3 : random.nextInt(2);
    }

    private int set() {
        if (random.nextInt(40) == 0) return random.nextInt(600) - 200;
        return random.nextInt(3) == 0 ? random.nextInt(256) : random.nextInt(8);
    }

    private int mask() {
        if (random.nextInt(30) == 0) return random.nextInt(600) - 200;
        int mask = 1 << random.nextInt(8);
        while (random.nextInt(3) != 0 && Integer.bitCount(mask) < 3) mask |= 1 << random.nextInt(4);
        return mask;
    }

    private int what(int most) {
        return random.nextInt(30) == 0 ? random.nextInt(most + 7) - 3 : random.nextInt(most + 1);
    }

    private void ask() {
        int p = place();
        switch (random.nextInt(20)) {
            case 0: case 1: case 2: case 3: case 4: case 5: {
                int o = set();
                same("instant(" + p + "," + o + ")", x.instant(p, o), model.instant(p, o));
                break;
            }
            case 6: same("undo(" + p + ")", x.undo(p), model.undo(p)); break;
            case 7:
                if (random.nextInt(4) == 0) same("restart(" + p + ")", x.restart(p), model.restart(p));
                same("state(" + p + ")", x.state(p), model.state(p));
                break;
            case 8: case 9: {
                int o = set(), w = what(4);
                same("would(" + p + "," + o + "," + w + ")", x.would(p, o, w), model.would(p, o, w));
                break;
            }
            case 10: case 11: {
                int a = set(), b = set(), w = what(3);
                if (random.nextInt(8) != 0) b &= ~a;
                same("found(" + p + "," + a + "," + b + "," + w + ")", x.found(p, a, b, w), model.found(p, a, b, w));
                break;
            }
            case 12: {
                int o = set(), s = what(7);
                same("waits(" + p + "," + o + "," + s + ")", x.waits(p, o, s), model.waits(p, o, s));
                break;
            }
            case 13: {
                int o = set();
                same("ring(" + p + "," + o + ")", x.ring(p, o), model.ring(p, o));
                break;
            }
            case 14: {
                int m = mask(), w = what(2);
                same("states(" + p + "," + m + "," + w + ")", x.states(p, m, w), model.states(p, m, w));
                break;
            }
            case 15: {
                int m = mask(), w = what(9);
                same("soon(" + p + "," + m + "," + w + ")", x.soon(p, m, w), model.soon(p, m, w));
                break;
            }
            case 16: {
                int m = mask();
                same("part(" + m + ")", x.part(m), model.part(m));
                break;
            }
            case 17: case 18: {
                int n = random.nextInt(25) - 1, w = what(5);
                same("node(" + p + "," + n + "," + w + ")", x.node(p, n, w), model.node(p, n, w));
                break;
            }
            default: {
                int w = what(4);
                same("count(" + p + "," + w + ")", x.count(p, w), model.count(p, w));
            }
        }
    }
}

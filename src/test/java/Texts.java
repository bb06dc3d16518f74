import java.util.Random;

/** Makes texts of programs that are mostly sound. */
final class Texts {
    private final Random random;
    private final int size;
    private final int signals;
    private final boolean blanks;

    Texts(Random random) {
        this.random = random;
        size = 2 + random.nextInt(random.nextInt(3) == 0 ? 40 : 14);
        signals = 1 + random.nextInt(random.nextInt(4) == 0 ? 8 : 4);
        blanks = random.nextInt(6) == 0;
    }

    String text() {
        int kind = random.nextInt(8);
        String made = kind == 0 ? wide() : kind == 1 ? tangled() : parallel(size, 0, 0);
        return blanks ? made.replace(";", " ; ").replace("!", "! ") : made;
    }

    /** Loops of pauses side by side, which reach many states. */
    private String wide() {
        StringBuilder made = new StringBuilder();
        for (int loops = 1 + random.nextInt(6); loops > 0; loops--) {
            made.append(made.length() == 0 ? "" : "|").append("*{").append(random.nextBoolean() ? "." : "&" + signal());
            for (int more = random.nextInt(5); more > 0; more--) made.append(';').append(leaf(0));
            made.append('}');
        }
        return made.toString();
    }

    /** Choices side by side, which depend on each other in one or the other way. */
    private String tangled() {
        StringBuilder made = new StringBuilder(random.nextBoolean() ? "" : ".;");
        for (int choices = 1 + random.nextInt(6); choices > 0; choices--) {
            made.append('?').append(signal()).append("{").append(tangledLeaf()).append('}');
            if (random.nextBoolean()) made.append("{").append(tangledLeaf()).append('}');
            if (choices > 1) made.append(random.nextInt(4) == 0 ? ';' : '|');
        }
        return random.nextInt(4) == 0 ? "$" + signal() + "{" + made + "}" : made.toString();
    }

    private String tangledLeaf() {
        switch (random.nextInt(8)) {
            case 0: return ".;!" + signal();
            case 1: return "?" + signal() + "{!" + signal() + "}";
            case 2: return "0";
            default: return "!" + signal();
        }
    }

    private char signal() {
        return (char) ('a' + random.nextInt(signals));
    }

    private String parallel(int budget, int traps, int locals) {
        if (budget < 3 || random.nextInt(3) != 0) return sequence(budget, traps, locals);
        int left = 1 + random.nextInt(budget - 2);
        return parallel(left, traps, locals) + "|" + parallel(budget - 1 - left, traps, locals);
    }

    private String sequence(int budget, int traps, int locals) {
        if (budget < 3 || random.nextInt(5) < 2) return part(budget, traps, locals);
        int left = 1 + random.nextInt(budget - 2);
        return sequence(left, traps, locals) + ";" + sequence(budget - 1 - left, traps, locals);
    }

    private String block(int budget, int traps, int locals) {
        return "{" + parallel(budget, traps, locals) + "}";
    }

    private String part(int budget, int traps, int locals) {
        if (budget < 2) return leaf(traps);
        switch (random.nextInt(locals < 3 ? 10 : 9)) {
            case 0: case 1: {
                if (budget < 3 || random.nextBoolean()) return "?" + signal() + block(budget - 1, traps, locals);
                int first = 1 + random.nextInt(budget - 2);
                return "?" + signal() + block(first, traps, locals) + block(budget - 1 - first, traps, locals);
            }
            case 2: case 3: {
                String pausing = budget < 4 ? random.nextBoolean() ? "." : "&" + signal() : parallel(budget - 3, traps, locals) + ";.";
                return random.nextInt(9) == 0 ? "*" + block(budget - 1, traps, locals) : "*{" + pausing + "}";
            }
            case 4: case 5: return "^" + block(budget - 1, traps + 1, locals);
            case 6: return "@" + signal() + block(budget - 1, traps, locals);
            case 7: return "~" + signal() + block(budget - 1, traps, locals);
            case 8: return "(" + parallel(budget, traps, locals) + ")";
            default: return "$" + signal() + block(budget - 1, traps, locals + 1);
        }
    }

    private String leaf(int traps) {
        switch (random.nextInt(traps > 0 ? 10 : 8)) {
            case 0: return random.nextInt(3) == 0 ? "0" : ".";
            case 1: case 2: return ".";
            case 3: case 4: return "&" + signal();
            case 5: case 6: case 7: return "!" + signal();
            default: return "x" + (random.nextInt(30) == 0 ? 4 : random.nextInt(Math.min(traps, 5)));
        }
    }
}

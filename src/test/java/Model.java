import java.util.ArrayDeque;
import java.util.ArrayList;
import java.util.Deque;
import java.util.HashMap;
import java.util.LinkedHashMap;
import java.util.List;
import java.util.Map;
import java.util.Set;
import java.util.TreeMap;
import java.util.TreeSet;

/**
 * A second program for the same document, written as literally as can be and by other means than the
 * class (an automaton for the faults, sets for the analysis, recorded completions for the next state,
 * pairs of distinguishable states for the classes), so that ModelRuns can compare the two.
 */
final class Model {
    static final int NONE = -1, UNKNOWN = -1000001, OUTSIDE = -1000002, NOT = -1000003, FULL = -1000004;
    static final int START = 1048576;

    /** A statement, or with the token 'n' the omitted branch of a choice. */
    static final class Node {
        char token;
        int number = -1;
        int detail = -1;
        int pausePoint = -1;
        int textIndex;
        final List<Node> parts = new ArrayList<>();

        List<Node> contained() {
            List<Node> all = new ArrayList<>();
            for (Node part : parts) {
                if (part.number >= 0) all.add(part);
                all.addAll(part.contained());
            }
            return all;
        }

        int points() {
            int set = pausePoint >= 0 ? 1 << pausePoint : 0;
            for (Node part : parts) set |= part.points();
            return set;
        }
    }

    static final class Result {
        final Set<Integer> mustEmit = new TreeSet<>(), mustCode = new TreeSet<>();
        final Set<Integer> canEmit = new TreeSet<>(), canCode = new TreeSet<>();

        static Result code(int code) {
            Result r = new Result();
            r.mustCode.add(code);
            r.canCode.add(code);
            return r;
        }
    }

    static final class Program {
        Node root;
        final Map<Integer, Node> nodes = new TreeMap<>();
        int points;
        int state = START;
        final Deque<Integer> history = new ArrayDeque<>();
    }

    static final class Instant {
        Map<Integer, Boolean> signals = new HashMap<>();
        int present, unsettled, code, next, rounds;
    }

    final StringBuilder text = new StringBuilder();
    final Program[] programs = new Program[2];
    int lastFault = 0;

    // ---- texts

    int write(int letter) {
        if (letter < 0 || letter > 255) return OUTSIDE;
        if (text.length() == 120) return FULL;
        text.append((char) letter);
        return text.length();
    }

    int erase() {
        int length = text.length();
        text.setLength(0);
        return length;
    }

    int program(int place) {
        if (place != 0 && place != 1) return UNKNOWN;
        String read = text.toString();
        text.setLength(0);
        int[] fault = firstFault(read);
        if (fault == null) {
            Program program = build(read);
            for (Node node : program.nodes.values()) {
                if (node.token == '*' && instantaneous(node.parts.get(0)).contains(0)) {
                    fault = new int[] {5, node.textIndex};
                    break;
                }
            }
            if (fault == null) {
                programs[place] = program;
                lastFault = 0;
                return program.points;
            }
        }
        lastFault = fault[0];
        return -100 - fault[1];
    }

    int fault() {
        return lastFault;
    }

    /** The faults 1 to 4 by an automaton with a stack of what the open brackets belong to. */
    private static int[] firstFault(String read) {
        String mode = "part";
        char owner = ' ';
        int statements = 0, points = 0;
        Deque<String> open = new ArrayDeque<>();
        for (int i = 0; i < read.length(); i++) {
            char c = read.charAt(i);
            if (c == ' ') continue;
            Set<Integer> faults = new TreeSet<>();
            boolean fits;
            switch (mode) {
                case "part": fits = "0.!&x?*^@~$(".indexOf(c) >= 0; break;
                case "signal": fits = c >= 'a' && c <= 'h'; break;
                case "digit": fits = c >= '0' && c <= '4'; break;
                case "block": fits = c == '{'; break;
                default:
                    fits = c == ';' || c == '|' || c == '}' && !open.isEmpty() && open.peek().startsWith("{")
                        || c == ')' && !open.isEmpty() && open.peek().startsWith("(") || c == '{' && mode.equals("second");
            }
            if (!fits) faults.add(1);
            long traps = open.stream().filter(o -> o.equals("{^")).count();
            long locals = open.stream().filter(o -> o.equals("{$")).count();
            if (mode.equals("digit") && traps <= c - '0') faults.add(2);
            boolean begins = !mode.equals("digit") && "0.!&x?*^@~$;|".indexOf(c) >= 0;
            boolean rests = begins && (c == '.' || c == '&');
            if (begins && statements == 60 || rests && points == 20) faults.add(3);
            if ((c == '{' || c == '(') && open.size() == 12 || begins && c == '$' && locals == 3) faults.add(4);
            if (!faults.isEmpty()) return new int[] {faults.iterator().next(), i};
            if (begins) statements++;
            if (rests) points++;
            switch (c) {
                case '0': case '1': case '2': case '3': case '4': case '.': mode = "after"; break;
                case '!': case '&': owner = ' '; mode = "signal"; break;
                case 'x': mode = "digit"; break;
                case '?': case '@': case '~': case '$': owner = c; mode = "signal"; break;
                case '*': case '^': owner = c; mode = "block"; break;
                case '(': open.push("("); mode = "part"; break;
                case '{': open.push("{" + (mode.equals("second") ? '2' : owner)); mode = "part"; break;
                case '}': mode = open.pop().equals("{?") ? "second" : "after"; break;
                case ')': open.pop(); mode = "after"; break;
                case ';': case '|': mode = "part"; break;
                default: mode = owner == ' ' ? "after" : "block";
            }
        }
        boolean complete = open.isEmpty() && (mode.equals("after") || mode.equals("second"));
        return complete ? null : new int[] {1, read.length()};
    }

    private String source;
    private int at;

    private Program build(String read) {
        source = read;
        at = 0;
        Program program = new Program();
        program.root = buildJoined('|');
        List<Node> all = program.root.contained();
        all.add(program.root);
        all.sort((a, b) -> a.textIndex - b.textIndex);
        for (Node node : all) {
            node.number = program.nodes.size();
            program.nodes.put(node.number, node);
            if (node.token == '.' || node.token == '&') node.pausePoint = program.points++;
        }
        return program;
    }

    private char ahead() {
        while (at < source.length() && source.charAt(at) == ' ') at++;
        return at < source.length() ? source.charAt(at) : '#';
    }

    private char next() {
        char c = ahead();
        at++;
        return c;
    }

    private Node buildJoined(char joint) {
        Node node = joint == '|' ? buildJoined(';') : buildPart();
        while (ahead() == joint) {
            Node join = new Node();
            join.token = joint;
            join.textIndex = at++;
            join.number = 0;
            join.parts.add(node);
            join.parts.add(joint == '|' ? buildJoined(';') : buildPart());
            node = join;
        }
        return node;
    }

    private Node buildPart() {
        char token = next();
        if (token == '(') {
            Node inside = buildJoined('|');
            next();
            return inside;
        }
        Node node = new Node();
        node.token = token;
        node.textIndex = at - 1;
        node.number = 0;
        if ("!&?@~$".indexOf(token) >= 0) node.detail = next() - 'a';
        if (token == 'x') node.detail = next() - '0';
        if ("?*^@~$".indexOf(token) >= 0) node.parts.add(buildBlock());
        if (token == '?') {
            Node nothing = new Node();
            nothing.token = 'n';
            node.parts.add(ahead() == '{' ? buildBlock() : nothing);
        }
        return node;
    }

    private Node buildBlock() {
        next();
        Node inside = buildJoined('|');
        next();
        return inside;
    }

    // ---- the analysis; a signal is present (true), absent (false) or unknown (null)

    private static Set<Integer> instantaneous(Node node) {
        return analyse(node, true, 0, false, new HashMap<>()).canCode;
    }

    private static boolean live(Node node, int state) {
        return (node.points() & state) != 0;
    }

    private static Result analyse(Node node, boolean starts, int state, boolean sure, Map<Integer, Boolean> signals) {
        Boolean s = signals.get(node.detail);
        switch (node.token) {
            case '.': return Result.code(starts ? 1 : 0);
            case '!': {
                Result r = Result.code(0);
                r.mustEmit.add(node.detail);
                r.canEmit.add(node.detail);
                return r;
            }
            case 'x': return Result.code(2 + node.detail);
            case '&': {
                if (starts) return Result.code(1);
                if (s != null) return Result.code(s ? 0 : 1);
                Result r = new Result();
                r.canCode.add(0);
                r.canCode.add(1);
                return r;
            }
            case '?': {
                Node first = node.parts.get(0), second = node.parts.get(1);
                if (!starts) return analyse(live(first, state) ? first : second, false, state, sure, signals);
                if (s != null) return analyse(s ? first : second, true, state, sure, signals);
                Result a = analyse(first, true, state, false, signals), b = analyse(second, true, state, false, signals);
                Result r = new Result();
                r.canEmit.addAll(a.canEmit);
                r.canEmit.addAll(b.canEmit);
                r.canCode.addAll(a.canCode);
                r.canCode.addAll(b.canCode);
                return r;
            }
            case ';': {
                Node left = node.parts.get(0), right = node.parts.get(1);
                if (!starts && !live(left, state)) return analyse(right, false, state, sure, signals);
                return sequence(analyse(left, starts, state, sure, signals), right, sure, signals);
            }
            case '|': {
                Result[] sides = new Result[2];
                for (int k = 0; k < 2; k++) {
                    Node side = node.parts.get(k);
                    sides[k] = starts || live(side, state) ? analyse(side, starts, state, sure, signals) : Result.code(0);
                }
                Result r = new Result();
                for (Result side : sides) {
                    r.mustEmit.addAll(side.mustEmit);
                    r.canEmit.addAll(side.canEmit);
                }
                for (int a : sides[0].mustCode) for (int b : sides[1].mustCode) r.mustCode.add(Math.max(a, b));
                for (int a : sides[0].canCode) for (int b : sides[1].canCode) r.canCode.add(Math.max(a, b));
                return r;
            }
            case '*': {
                Node block = node.parts.get(0);
                Result first = analyse(block, starts, state, sure, signals);
                return starts || !first.canCode.contains(0) ? first : sequence(first, block, sure, signals);
            }
            case '^': {
                Result inside = analyse(node.parts.get(0), starts, state, sure, signals);
                Result r = new Result();
                r.mustEmit.addAll(inside.mustEmit);
                r.canEmit.addAll(inside.canEmit);
                for (int code : inside.mustCode) r.mustCode.add(beyondTrap(code));
                for (int code : inside.canCode) r.canCode.add(beyondTrap(code));
                return r;
            }
            case '@': {
                Node block = node.parts.get(0);
                if (starts) return analyse(block, true, state, sure, signals);
                if (s != null) return s ? Result.code(0) : analyse(block, false, state, sure, signals);
                Result r = analyse(block, false, state, false, signals);
                r.mustEmit.clear();
                r.mustCode.clear();
                r.canCode.add(0);
                return r;
            }
            case '~': {
                Result r = analyse(node.parts.get(0), starts, state, sure, signals);
                if (starts || s != null && !s) return r;
                if (s == null) {
                    r.mustCode.remove(1);
                    if (r.canCode.contains(1)) r.canCode.add(0);
                } else {
                    if (r.mustCode.remove(1)) r.mustCode.add(0);
                    if (r.canCode.remove(1)) r.canCode.add(0);
                }
                return r;
            }
            case '$': {
                Node block = node.parts.get(0);
                Map<Integer, Boolean> inside = new HashMap<>(signals);
                inside.remove(node.detail);
                Result r = analyse(block, starts, state, sure, inside);
                if (sure && r.mustEmit.contains(node.detail)) {
                    inside.put(node.detail, true);
                    r = analyse(block, starts, state, sure, inside);
                } else if (!r.canEmit.contains(node.detail)) {
                    inside.put(node.detail, false);
                    r = analyse(block, starts, state, sure, inside);
                }
                r.mustEmit.remove(node.detail);
                r.canEmit.remove(node.detail);
                return r;
            }
            default: return Result.code(0);
        }
    }

    private static int beyondTrap(int code) {
        return code == 2 ? 0 : code > 2 ? code - 1 : code;
    }

    private static Result sequence(Result left, Node right, boolean sure, Map<Integer, Boolean> signals) {
        if (!left.canCode.contains(0)) return left;
        boolean ends = left.mustCode.contains(0);
        Result after = analyse(right, true, 0, sure && ends, signals);
        Result r = new Result();
        r.canEmit.addAll(left.canEmit);
        r.canEmit.addAll(after.canEmit);
        r.canCode.addAll(left.canCode);
        r.canCode.remove(0);
        r.canCode.addAll(after.canCode);
        r.mustEmit.addAll(left.mustEmit);
        if (ends) {
            r.mustEmit.addAll(after.mustEmit);
            r.mustCode.addAll(after.mustCode);
        } else {
            r.mustCode.addAll(left.mustCode);
        }
        return r;
    }

    // ---- the execution, which records with which code each statement has completed

    private static final class Unsettled extends RuntimeException {
        private static final long serialVersionUID = 1L;
    }

    private static int execute(Node node, boolean starts, int state, Map<Integer, Boolean> signals, Map<Node, Integer> done) {
        int code = executeIt(node, starts, state, signals, done);
        done.put(node, code);
        return code;
    }

    private static int executeIt(Node node, boolean starts, int state, Map<Integer, Boolean> signals, Map<Node, Integer> done) {
        boolean s = Boolean.TRUE.equals(signals.get(node.detail));
        Node first = node.parts.isEmpty() ? null : node.parts.get(0);
        Node second = node.parts.size() < 2 ? null : node.parts.get(1);
        switch (node.token) {
            case '.': return starts ? 1 : 0;
            case '&': return starts || !s ? 1 : 0;
            case 'x': return 2 + node.detail;
            case '?': return execute((starts ? s : live(first, state)) ? first : second, starts, state, signals, done);
            case ';': {
                if (!starts && !live(first, state)) return execute(second, false, state, signals, done);
                int code = execute(first, starts, state, signals, done);
                return code == 0 ? execute(second, true, state, signals, done) : code;
            }
            case '|': {
                int a = starts || live(first, state) ? execute(first, starts, state, signals, done) : 0;
                int b = starts || live(second, state) ? execute(second, starts, state, signals, done) : 0;
                return Math.max(a, b);
            }
            case '*': {
                int code = execute(first, starts, state, signals, done);
                if (starts || code != 0) return code;
                done.keySet().removeAll(first.contained());
                return execute(first, true, state, signals, done);
            }
            case '^': return beyondTrap(execute(first, starts, state, signals, done));
            case '@': return !starts && s ? 0 : execute(first, starts, state, signals, done);
            case '~': {
                int code = execute(first, starts, state, signals, done);
                return !starts && s && code == 1 ? 0 : code;
            }
            case '$': {
                Map<Integer, Boolean> inside = new HashMap<>(signals);
                inside.remove(node.detail);
                Result r = analyse(first, starts, state, true, inside);
                if (r.mustEmit.contains(node.detail)) inside.put(node.detail, true);
                else if (!r.canEmit.contains(node.detail)) inside.put(node.detail, false);
                else throw new Unsettled();
                return execute(first, starts, state, inside, done);
            }
            default: return 0;
        }
    }

    private static Instant settle(Program program, int state, int outside) {
        Instant instant = new Instant();
        if (state == 0) {
            instant.present = outside;
            return instant;
        }
        for (int s = 0; s < 8; s++) if ((outside >> s & 1) == 1) instant.signals.put(s, true);
        boolean changed = true;
        while (changed) {
            instant.rounds++;
            changed = false;
            Result r = analyse(program.root, state == START, state, true, instant.signals);
            for (int s = 0; s < 8; s++) {
                boolean present = Boolean.TRUE.equals(instant.signals.get(s));
                if (!present && r.mustEmit.contains(s)) {
                    instant.signals.put(s, true);
                    changed = true;
                } else if (!present && !r.canEmit.contains(s) && instant.signals.get(s) == null) {
                    instant.signals.put(s, false);
                    changed = true;
                }
            }
        }
        for (int s = 0; s < 8; s++) {
            Boolean known = instant.signals.get(s);
            if (known == null) instant.unsettled |= 1 << s;
            else if (known) instant.present |= 1 << s;
        }
        if (instant.unsettled == 0) complete(program, state, instant);
        return instant;
    }

    private static void complete(Program program, int state, Instant instant) {
        Map<Node, Integer> done = new HashMap<>();
        try {
            instant.code = execute(program.root, state == START, state, instant.signals, done);
        } catch (Unsettled e) {
            instant.unsettled = 256;
            return;
        }
        if (instant.code != 1) return;
        for (Node node : program.nodes.values()) {
            if (node.pausePoint < 0 || !Integer.valueOf(1).equals(done.get(node))) continue;
            boolean rests = true;
            for (Node other : program.nodes.values()) {
                if (other.contained().contains(node) && done.containsKey(other) && done.get(other) != 1) rests = false;
            }
            if (rests) instant.next |= 1 << node.pausePoint;
        }
    }

    // ---- the other promises

    private Program at(int place) {
        return place == 0 || place == 1 ? programs[place] : null;
    }

    private static boolean isSet(int set) {
        return set >= 0 && set < 256;
    }

    private static boolean isMask(int mask) {
        return isSet(mask) && Integer.bitCount(mask) >= 1 && Integer.bitCount(mask) <= 3;
    }

    private static int bits(Set<Integer> set) {
        int bits = 0;
        for (int k : set) bits |= 1 << k;
        return bits;
    }

    int instant(int place, int outside) {
        Program p = at(place);
        if (p == null) return UNKNOWN;
        if (!isSet(outside)) return OUTSIDE;
        Instant i = settle(p, p.state, outside);
        if (i.unsettled != 0) return NOT;
        p.history.push(p.state);
        if (p.history.size() > 20) p.history.removeLast();
        p.state = i.next;
        return i.present;
    }

    int undo(int place) {
        Program p = at(place);
        if (p == null) return UNKNOWN;
        if (p.history.isEmpty()) return NOT;
        p.state = p.history.pop();
        return p.history.size();
    }

    int restart(int place) {
        Program p = at(place);
        if (p == null) return UNKNOWN;
        int was = p.state;
        p.state = START;
        p.history.clear();
        return was;
    }

    int state(int place) {
        return at(place) == null ? UNKNOWN : at(place).state;
    }

    int would(int place, int outside, int what) {
        Program p = at(place);
        if (p == null) return UNKNOWN;
        if (!isSet(outside) || what < 0 || what > 4) return OUTSIDE;
        Instant i = settle(p, p.state, outside);
        if (i.unsettled != 0 && (what == 0 || what == 2 || what == 3)) return NOT;
        return new int[] {i.present, i.unsettled, i.code, i.next, i.rounds}[what];
    }

    int found(int place, int there, int notThere, int what) {
        Program p = at(place);
        if (p == null) return UNKNOWN;
        if (!isSet(there) || !isSet(notThere) || what < 0 || what > 3 || (there & notThere) != 0) return OUTSIDE;
        if (p.state == 0) return NOT;
        Map<Integer, Boolean> signals = new HashMap<>();
        for (int s = 0; s < 8; s++) {
            if ((there >> s & 1) == 1) signals.put(s, true);
            if ((notThere >> s & 1) == 1) signals.put(s, false);
        }
        Result r = analyse(p.root, p.state == START, p.state, true, signals);
        return bits(List.of(r.mustEmit, r.canEmit, r.mustCode, r.canCode).get(what));
    }

    private static int waitsIn(Program p, int outside, int signal) {
        Instant i = settle(p, p.state, outside);
        int set = 0;
        if (i.unsettled == 256 || (i.unsettled >> signal & 1) == 0) return 0;
        for (int t = 0; t < 8; t++) {
            if ((i.unsettled >> t & 1) == 0) continue;
            for (boolean value : new boolean[] {true, false}) {
                Map<Integer, Boolean> signals = new HashMap<>(i.signals);
                signals.put(t, value);
                Result r = analyse(p.root, p.state == START, p.state, true, signals);
                if (r.mustEmit.contains(signal) || !r.canEmit.contains(signal)) set |= 1 << t;
            }
        }
        return set;
    }

    int waits(int place, int outside, int signal) {
        Program p = at(place);
        if (p == null) return UNKNOWN;
        if (!isSet(outside) || signal < 0 || signal > 7) return OUTSIDE;
        return waitsIn(p, outside, signal);
    }

    int ring(int place, int outside) {
        Program p = at(place);
        if (p == null) return UNKNOWN;
        if (!isSet(outside)) return OUTSIDE;
        int unsettled = settle(p, p.state, outside).unsettled & 255;
        if (unsettled == 0) return NONE;
        List<Integer> way = new ArrayList<>();
        int s = Integer.numberOfTrailingZeros(unsettled);
        while (!way.contains(s)) {
            way.add(s);
            int waits = waitsIn(p, outside, s);
            if (waits == 0) return 0;
            s = Integer.numberOfTrailingZeros(waits);
        }
        return bits(new TreeSet<>(way.subList(way.indexOf(s), way.size())));
    }

    private static List<Integer> subsets(int mask) {
        List<Integer> all = new ArrayList<>();
        for (int set = 0; set < 256; set++) if ((set & ~mask) == 0) all.add(set);
        return all;
    }

    int states(int place, int mask, int what) {
        Program p = at(place);
        if (p == null) return UNKNOWN;
        if (!isMask(mask) || what < 0 || what > 2) return OUTSIDE;
        Map<Integer, List<Instant>> rows = new LinkedHashMap<>();
        Deque<Integer> queue = new ArrayDeque<>(List.of(START));
        Set<Integer> seen = new TreeSet<>(queue);
        int rejected = 0;
        while (!queue.isEmpty()) {
            int state = queue.poll();
            List<Instant> row = new ArrayList<>();
            for (int outside : subsets(mask)) {
                Instant i = settle(p, state, outside);
                row.add(i);
                if (i.unsettled != 0) rejected++;
                else if (seen.add(i.next)) queue.add(i.next);
                if (seen.size() > 100) return FULL;
            }
            rows.put(state, row);
        }
        return what == 0 ? rows.size() : what == 2 ? rejected : classes(rows);
    }

    private static int classes(Map<Integer, List<Instant>> rows) {
        List<Integer> all = new ArrayList<>(rows.keySet());
        Set<Long> apart = new java.util.HashSet<>();
        boolean changed = true;
        while (changed) {
            changed = false;
            for (int a : all) {
                for (int b : all) {
                    if (a < b && !apart.contains(pair(a, b)) && differ(rows.get(a), rows.get(b), apart)) {
                        apart.add(pair(a, b));
                        changed = true;
                    }
                }
            }
        }
        int classes = 0;
        for (int a : all) {
            boolean first = true;
            for (int b : all) if (b < a && !apart.contains(pair(b, a))) first = false;
            if (first) classes++;
        }
        return classes;
    }

    private static long pair(int a, int b) {
        return ((long) Math.min(a, b) << 32) + Math.max(a, b);
    }

    private static boolean differ(List<Instant> one, List<Instant> two, Set<Long> apart) {
        for (int k = 0; k < one.size(); k++) {
            Instant a = one.get(k), b = two.get(k);
            if ((a.unsettled != 0) != (b.unsettled != 0)) return true;
            if (a.unsettled == 0 && (a.present != b.present || apart.contains(pair(a.next, b.next)))) return true;
        }
        return false;
    }

    int soon(int place, int mask, int what) {
        Program p = at(place);
        if (p == null) return UNKNOWN;
        if (!isMask(mask) || what < 0 || what > 9 || what < 8 && (mask >> what & 1) == 1) return OUTSIDE;
        Map<Integer, Integer> after = new LinkedHashMap<>();
        after.put(p.state, 0);
        Deque<Integer> queue = new ArrayDeque<>(List.of(p.state));
        while (!queue.isEmpty()) {
            int state = queue.poll();
            for (int outside : subsets(mask)) {
                Instant i = settle(p, state, outside);
                boolean settled = i.unsettled == 0;
                if (what == 9 ? !settled : settled && (what == 8 ? i.next == 0 : (i.present >> what & 1) == 1)) {
                    return after.get(state) + 1;
                }
                if (settled && after.putIfAbsent(i.next, after.get(state) + 1) == null) queue.add(i.next);
                if (after.size() > 100) return FULL;
            }
        }
        return NONE;
    }

    int part(int mask) {
        if (programs[0] == null || programs[1] == null) return UNKNOWN;
        if (!isMask(mask)) return OUTSIDE;
        Map<List<Integer>, Integer> after = new HashMap<>();
        Deque<List<Integer>> queue = new ArrayDeque<>();
        queue.add(List.of(START, START));
        after.put(List.of(START, START), 0);
        while (!queue.isEmpty()) {
            List<Integer> states = queue.poll();
            for (int outside : subsets(mask)) {
                Instant a = settle(programs[0], states.get(0), outside), b = settle(programs[1], states.get(1), outside);
                int steps = after.get(states) + 1;
                if ((a.unsettled != 0) != (b.unsettled != 0)) return steps;
                if (a.unsettled != 0) continue;
                if (a.present != b.present) return steps;
                if (after.putIfAbsent(List.of(a.next, b.next), steps) == null) queue.add(List.of(a.next, b.next));
                if (after.size() > 200) return FULL;
            }
        }
        return NONE;
    }

    int node(int place, int number, int what) {
        Program p = at(place);
        if (p == null || !p.nodes.containsKey(number)) return UNKNOWN;
        Node node = p.nodes.get(number);
        switch (what) {
            case 0: return node.token;
            case 1: return node.detail;
            case 2: return node.points();
            case 3: return node.contained().size();
            case 4: return bits(instantaneous(node));
            case 5: return (int) p.nodes.values().stream().filter(n -> n.contained().contains(node)).count();
            default: return OUTSIDE;
        }
    }

    int count(int place, int what) {
        Program p = at(place);
        if (p == null) return UNKNOWN;
        switch (what) {
            case 0: return p.nodes.size();
            case 1: return p.points;
            case 2: return p.state == START ? 0 : Integer.bitCount(p.state);
            case 3: return p.history.size();
            case 4: return text.length();
            default: return OUTSIDE;
        }
    }
}

import java.util.ArrayList;
import java.util.HashMap;
import java.util.List;
import java.util.Map;
import java.util.NoSuchElementException;
import java.util.Set;
import java.util.regex.Matcher;
import java.util.regex.Pattern;

/**
 * The document once more, written as plainly and as wastefully as can be, apart from the class
 * that it is held against: every answer is worked out anew on copies.
 */
public final class Model {
    interface Formula {
        int at(int wave, int warm, int time, int heart);
    }

    static final class Man {
        String name;
        int kind;
        int cell;
        int loyal;
    }

    static final class Told {
        int cells = 8;
        final List<Man> men = new ArrayList<>();
        List<Integer> heats = List.of(2);
        Formula fades = (wave, warm, time, heart) -> 1;
        Formula reads = (wave, warm, time, heart) -> wave;
    }

    /** A cracked cell is null. */
    static final class Now {
        List<Integer> shakes = new ArrayList<>();
        List<Integer> cells = new ArrayList<>();
        List<Integer> done = new ArrayList<>();
        int beat;

        Now copy() {
            Now c = new Now();
            c.shakes = new ArrayList<>(shakes);
            c.cells = new ArrayList<>(cells);
            c.done = new ArrayList<>(done);
            c.beat = beat;
            return c;
        }

        int shake(int cell) {
            Integer s = shakes.get(Math.floorMod(cell, shakes.size()));
            return s == null ? 0 : s;
        }
    }

    record Line(String word, int a, int b) { }

    record Feeling(int cell, int beats, int shake) { }

    record Token(String text, int place) { }

    static final class Fault extends RuntimeException {
        private static final long serialVersionUID = 1L;
        final int code;

        Fault(int kind, Token token) {
            code = kind + 16 * token.place();
        }
    }

    private final StringBuilder tape = new StringBuilder();
    private Told told = new Told();
    private List<Line> lines = new ArrayList<>();
    private Now now = begin(told);
    private List<Feeling> felt = new ArrayList<>();
    private final List<Now> undos = new ArrayList<>();
    private final Map<Integer, Now> markNow = new HashMap<>();
    private final Map<Integer, List<Feeling>> markFelt = new HashMap<>();

    // ---- reading

    private static final Set<String> NO_NAMES = Set.of("cells", "courtier", "at", "loyal", "heat", "fades",
        "reads", "touch", "breathe", "fork", "turn", "change", "beat", "plain", "spoon", "child", "maid",
        "not", "and", "or");
    private static final List<String> KINDS = List.of("plain", "spoon", "child", "maid");

    private List<Token> tokens;
    private int at;
    private boolean ofReads;

    private void open() {
        tokens = new ArrayList<>();
        Matcher m = Pattern.compile("[a-z]+|[0-9]+|[^ \n]").matcher(tape);
        while (m.find()) {
            String t = m.group();
            boolean good = t.matches("[a-z]{1,8}|[0-9]{1,4}|[()<=+*;-]");
            tokens.add(new Token(good ? t : "?", m.start()));
        }
        tokens.add(new Token("", tape.length()));
        tape.setLength(0);
        at = 0;
    }

    private Token peek() {
        return tokens.get(at);
    }

    private boolean sees(String text) {
        return peek().text().equals(text);
    }

    private void want(String text) {
        if (!sees(text)) {
            throw new Fault(1, peek());
        }
        at++;
    }

    private boolean seesNumber() {
        return peek().text().matches("[0-9]+");
    }

    private int number(int least, int most) {
        if (!seesNumber()) {
            throw new Fault(1, peek());
        }
        int v = Integer.parseInt(peek().text());
        if (v < least || v > most) {
            throw new Fault(4, peek());
        }
        at++;
        return v;
    }

    private String name() {
        if (!peek().text().matches("[a-z]+") || NO_NAMES.contains(peek().text())) {
            throw new Fault(1, peek());
        }
        return tokens.get(at++).text();
    }

    private Told readCourt() {
        Told t = new Told();
        List<String> once = new ArrayList<>();
        while (!sees("")) {
            Token first = peek();
            if (once.contains(first.text())) {
                throw new Fault(3, first);
            }
            at++;
            switch (first.text()) {
                case "cells":
                    t.cells = number(3, 12);
                    break;
                case "courtier":
                    at--;
                    readMan(t);
                    break;
                case "heat":
                    t.heats = readHeats();
                    break;
                case "fades":
                    ofReads = false;
                    t.fades = e(0);
                    break;
                case "reads":
                    ofReads = true;
                    t.reads = e(0);
                    break;
                default:
                    throw new Fault(1, first);
            }
            if (!first.text().equals("courtier")) {
                once.add(first.text());
            }
            want(";");
        }
        for (Man m : t.men) {
            m.cell = Math.min(m.cell, t.cells - 1);
        }
        return t;
    }

    private void readMan(Told t) {
        if (t.men.size() == 6) {
            throw new Fault(5, peek());
        }
        at++;
        Man m = new Man();
        Token nameToken = peek();
        m.name = name();
        for (Man other : t.men) {
            if (other.name.equals(m.name)) {
                throw new Fault(3, nameToken);
            }
        }
        m.kind = KINDS.indexOf(peek().text());
        if (m.kind < 0) {
            throw new Fault(1, peek());
        }
        at++;
        want("at");
        m.cell = number(0, 11);
        want("loyal");
        m.loyal = number(0, 9);
        t.men.add(m);
    }

    private List<Integer> readHeats() {
        List<Integer> heats = new ArrayList<>();
        do {
            Token token = peek();
            int heat = number(0, 5);
            if (heats.size() == 12) {
                throw new Fault(5, token);
            }
            heats.add(heat);
        } while (seesNumber());
        return heats;
    }

    private Formula e(int depth) {
        Formula left = test(depth);
        while (sees("and") || sees("or")) {
            boolean and = sees("and");
            at++;
            Formula l = left;
            Formula r = test(depth);
            left = (w, h, t, y) -> {
                boolean a = l.at(w, h, t, y) != 0;
                boolean b = r.at(w, h, t, y) != 0;
                return (and ? a && b : a || b) ? 1 : 0;
            };
        }
        return left;
    }

    private Formula test(int depth) {
        Formula l = sum(depth);
        if (sees("<")) {
            at++;
            Formula r = sum(depth);
            return (w, h, t, y) -> l.at(w, h, t, y) < r.at(w, h, t, y) ? 1 : 0;
        }
        if (sees("=")) {
            at++;
            Formula r = sum(depth);
            return (w, h, t, y) -> l.at(w, h, t, y) == r.at(w, h, t, y) ? 1 : 0;
        }
        return l;
    }

    private Formula sum(int depth) {
        Formula left = product(depth);
        while (sees("+") || sees("-")) {
            int sign = sees("+") ? 1 : -1;
            at++;
            Formula l = left;
            Formula r = product(depth);
            left = (w, h, t, y) -> l.at(w, h, t, y) + sign * r.at(w, h, t, y);
        }
        return left;
    }

    private Formula product(int depth) {
        Formula left = part(depth);
        while (sees("*")) {
            at++;
            Formula l = left;
            Formula r = part(depth);
            left = (w, h, t, y) -> l.at(w, h, t, y) * r.at(w, h, t, y);
        }
        return left;
    }

    private Formula part(int depth) {
        Token token = peek();
        boolean can = seesNumber() || Set.of("not", "(", "wave", "warm", "time").contains(token.text())
            || sees("heart") && ofReads;
        if (!can) {
            throw new Fault(1, token);
        }
        if (depth == 5) {
            throw new Fault(5, token);
        }
        at++;
        switch (token.text()) {
            case "not": {
                Formula p = part(depth + 1);
                return (w, h, t, y) -> p.at(w, h, t, y) == 0 ? 1 : 0;
            }
            case "(": {
                Formula p = e(depth + 1);
                want(")");
                return p;
            }
            case "wave":
                return (w, h, t, y) -> w;
            case "warm":
                return (w, h, t, y) -> h;
            case "time":
                return (w, h, t, y) -> t;
            case "heart":
                return (w, h, t, y) -> y;
            default: {
                int v = Integer.parseInt(token.text());
                return (w, h, t, y) -> v;
            }
        }
    }

    private List<Line> readReign() {
        List<Line> all = new ArrayList<>();
        while (!sees("")) {
            Token first = peek();
            if (!Set.of("touch", "breathe", "fork", "turn", "change", "beat").contains(first.text())) {
                throw new Fault(1, first);
            }
            if (all.size() == 40) {
                throw new Fault(5, first);
            }
            at++;
            int a = 0;
            int b = 0;
            switch (first.text()) {
                case "touch":
                    a = number(0, 11);
                    b = number(1, 20);
                    break;
                case "breathe": case "fork":
                    a = number(0, 11);
                    break;
                case "change": {
                    a = man();
                    Token second = peek();
                    b = man();
                    if (a == b) {
                        throw new Fault(3, second);
                    }
                    break;
                }
                default:
                    break;
            }
            want(";");
            all.add(new Line(first.text(), a, b));
        }
        return all;
    }

    private int man() {
        Token token = peek();
        String name = name();
        for (int i = 0; i < told.men.size(); i++) {
            if (told.men.get(i).name.equals(name)) {
                return i;
            }
        }
        throw new Fault(2, token);
    }

    // ---- what goes on

    private static Now begin(Told t) {
        Now n = new Now();
        for (int i = 0; i < t.cells; i++) {
            n.shakes.add(0);
        }
        for (Man m : t.men) {
            n.cells.add(m.cell);
            n.done.add(0);
        }
        return n;
    }

    private int heatOf(int beat) {
        return told.heats.get(beat % told.heats.size());
    }

    private static int cut(int v) {
        return v < 0 ? 0 : v > 99 ? 99 : v;
    }

    private boolean open(Now n, int cell) {
        return cell >= 0 && cell < told.cells && n.shakes.get(cell) != null;
    }

    private boolean man(int man) {
        return man >= 0 && man < told.men.size();
    }

    private boolean act(Now n, String word, int a, int b) {
        switch (word) {
            case "touch":
                if (!open(n, a)) {
                    return false;
                }
                n.shakes.set(a, cut(n.shake(a) + b));
                return true;
            case "breathe":
                if (a < 0 || a >= told.cells) {
                    return false;
                }
                if (n.shakes.get(a) != null) {
                    n.shakes.set(a, cut(n.shake(a) - 3));
                }
                return true;
            case "fork":
                if (!open(n, a)) {
                    return false;
                }
                n.shakes.set(a, null);
                return true;
            case "turn":
                java.util.Collections.reverse(n.shakes);
                return true;
            case "change":
                if (!man(a) || !man(b) || a == b) {
                    return false;
                }
                java.util.Collections.swap(n.cells, a, b);
                return true;
            default:
                beat(n, heatOf(n.beat));
                return true;
        }
    }

    private int beat(Now n, int heat) {
        List<Integer> next = new ArrayList<>();
        for (int i = 0; i < told.cells; i++) {
            int wave = (n.shake(i - 1) + n.shake(i + 1)) / 2;
            int fade = cut(told.fades.at(wave, heat, n.beat, -777));
            next.add(n.shakes.get(i) == null ? null : Integer.valueOf(cut(wave - fade)));
        }
        n.shakes = next;
        int all = 0;
        for (int i = 0; i < told.men.size(); i++) {
            Man m = told.men.get(i);
            int cell = n.cells.get(i);
            int here = cut(told.reads.at(n.shake(cell), heat, n.beat, m.loyal));
            int beside = cut(told.reads.at(n.shake(cell + 1), heat, n.beat, m.loyal));
            int deed = here;
            if (m.kind == 1) {
                deed = here + beside;
            } else if (m.kind == 2 && n.shake(cell) > 20) {
                deed = 0;
            } else if (m.kind == 3 && n.shake(cell) != 0) {
                deed = here + 1;
            }
            n.done.set(i, n.done.get(i) + deed);
            all += deed;
        }
        n.beat++;
        return all;
    }

    private Now behind(Now from, int beats) {
        Now n = from.copy();
        for (int i = 0; i < beats; i++) {
            beat(n, heatOf(n.beat));
        }
        return n;
    }

    private static int sum(List<Integer> list) {
        int s = 0;
        for (Integer v : list) {
            s += v == null ? 0 : v;
        }
        return s;
    }

    private boolean byHand(String word, int a, int b) {
        Now before = now.copy();
        if (!act(now, word, a, b)) {
            return false;
        }
        undos.add(before);
        if (undos.size() > 16) {
            undos.remove(0);
        }
        return true;
    }

    private static boolean in(int v, int least, int most) {
        return v >= least && v <= most;
    }

    List<String> names() {
        List<String> names = new ArrayList<>();
        for (Man m : told.men) {
            names.add(m.name);
        }
        return names;
    }

    int wouldShake(int where, int force, int cell, int beats) {
        return behind(touched(where, force), beats).shake(cell);
    }

    // ---- the face

    public int feed(long a, long b, long c) {
        for (long eight : new long[] {a, b, c}) {
            for (byte s : java.nio.ByteBuffer.allocate(8).putLong(eight).array()) {
                if ((s == 10 || s >= 32 && s <= 126) && tape.length() < 1000) {
                    tape.append((char) s);
                }
            }
        }
        return tape.length();
    }

    public int court() {
        open();
        try {
            told = readCourt();
        } catch (Fault f) {
            return f.code;
        }
        lines = new ArrayList<>();
        now = begin(told);
        felt = new ArrayList<>();
        undos.clear();
        markNow.clear();
        markFelt.clear();
        return 0;
    }

    public int reign() {
        open();
        try {
            lines = readReign();
        } catch (Fault f) {
            return f.code;
        }
        return 0;
    }

    public int shake(int cell) {
        return open(now, cell) ? now.shake(cell) : -1;
    }

    public int courtier(int courtier, int what) {
        if (!man(courtier) || !in(what, 0, 3)) {
            return -2;
        }
        Man m = told.men.get(courtier);
        return new int[] {m.kind, now.cells.get(courtier), m.loyal, now.done.get(courtier)}[what];
    }

    public int touch(int cell, int force) {
        return in(force, 1, 20) && byHand("touch", cell, force) ? now.shake(cell) : -1;
    }

    public int breathe(int cell) {
        return byHand("breathe", cell, 0) ? now.shake(cell) : -1;
    }

    public boolean fork(int cell) {
        return byHand("fork", cell, 0);
    }

    public boolean turn() {
        List<Integer> before = new ArrayList<>(now.shakes);
        byHand("turn", 0, 0);
        return !before.equals(now.shakes);
    }

    public boolean change(int courtier, int other) {
        return byHand("change", courtier, other);
    }

    public int beat() {
        int before = sum(now.done);
        byHand("beat", 0, 0);
        return sum(now.done) - before;
    }

    public boolean undo() {
        if (undos.isEmpty()) {
            return false;
        }
        now = undos.remove(undos.size() - 1);
        return true;
    }

    public int judged(int what) {
        if (!in(what, 0, 2)) {
            return -2;
        }
        int wrong = -1;
        int shaking = -1;
        Now n = begin(told);
        for (int i = 0; i < lines.size(); i++) {
            Line line = lines.get(i);
            if (!act(n, line.word(), line.a(), line.b()) && wrong < 0) {
                wrong = i;
            }
            boolean some = false;
            boolean all = true;
            for (Integer s : n.shakes) {
                some |= s != null;
                all &= s == null || s > 0;
            }
            if (some && all && shaking < 0) {
                shaking = i;
            }
        }
        return what == 0 ? wrong : what == 1 ? shaking : sum(n.done);
    }

    public int later(int cell, int beats) {
        return open(now, cell) && in(beats, 0, 60) ? behind(now, beats).shake(cell) : -1;
    }

    public int still() {
        for (int i = 0; i <= 60; i++) {
            if (sum(behind(now, i).shakes) == 0) {
                return i;
            }
        }
        return -1;
    }

    public int peak(int cell) {
        if (!open(now, cell)) {
            return -1;
        }
        int best = 0;
        for (int i = 60; i >= 0; i--) {
            if (later(cell, i) >= later(cell, best)) {
                best = i;
            }
        }
        return best;
    }

    private int totalFrom(Now from, int courtier, int beats) {
        return behind(from, beats).done.get(courtier) - from.done.get(courtier);
    }

    public int total(int courtier, int beats) {
        return man(courtier) && in(beats, 1, 60) ? totalFrom(now, courtier, beats) : -1;
    }

    private Now touched(int cell, int force) {
        Now n = now.copy();
        act(n, "touch", cell, force);
        return n;
    }

    public int nudge(int cell, int beats, int shake, int what) {
        if (!open(now, cell) || !in(beats, 0, 12) || !in(shake, 1, 99) || !in(what, 0, 1)) {
            return -1;
        }
        for (int force = 1; force <= 20; force++) {
            for (int c = 0; c < told.cells; c++) {
                if (open(now, c) && behind(touched(c, force), beats).shake(cell) >= shake) {
                    return what == 0 ? force : c;
                }
            }
        }
        return -1;
    }

    public int guard(int courtier) {
        int best = -1;
        int least = Integer.MAX_VALUE;
        for (int c = 0; c < told.cells && man(courtier); c++) {
            Now n = now.copy();
            if (act(n, "fork", c, 0) && totalFrom(n, courtier, 20) < least) {
                least = totalFrom(n, courtier, 20);
                best = c;
            }
        }
        return best;
    }

    private int allTotals(Now n) {
        int s = 0;
        for (int i = 0; i < told.men.size(); i++) {
            s += totalFrom(n, i, 20);
        }
        return s;
    }

    public int swap() {
        int best = -1;
        int most = allTotals(now);
        for (int i = 0; i < told.men.size(); i++) {
            for (int j = i + 1; j < told.men.size(); j++) {
                Now n = now.copy();
                act(n, "change", i, j);
                if (allTotals(n) > most) {
                    most = allTotals(n);
                    best = 8 * i + j;
                }
            }
        }
        return best;
    }

    public boolean feel(int cell, int beats, int shake) {
        if (!open(now, cell) || !in(beats, 0, 12) || !in(shake, 0, 99) || felt.size() == 8) {
            return false;
        }
        felt.add(new Feeling(cell, beats, shake));
        return true;
    }

    private List<int[]> allWays() {
        List<int[]> ways = new ArrayList<>();
        for (int c = 0; c < told.cells; c++) {
            for (int force = 1; force <= 20 && open(now, c); force++) {
                boolean all = true;
                for (Feeling f : felt) {
                    all &= behind(touched(c, force), f.beats()).shake(f.cell()) == f.shake();
                }
                if (all) {
                    ways.add(new int[] {c, force});
                }
            }
        }
        return ways;
    }

    public int ways(int what) {
        List<int[]> all = allWays();
        int bits = 0;
        int least = -1;
        int most = -1;
        for (int[] way : all) {
            bits |= 1 << way[0];
            least = least < 0 ? way[1] : Math.min(least, way[1]);
            most = Math.max(most, way[1]);
        }
        return in(what, 0, 3) ? new int[] {all.size(), bits, least, most}[what] : -1;
    }

    public int look(int beats) {
        if (!in(beats, 0, 12)) {
            return -1;
        }
        List<int[]> all = allWays();
        List<Now> ends = new ArrayList<>();
        for (int[] way : all) {
            ends.add(behind(touched(way[0], way[1]), beats));
        }
        int best = -1;
        int least = all.size();
        for (int c = 0; c < told.cells; c++) {
            Map<Integer, Integer> groups = new HashMap<>();
            int greatest = 0;
            for (Now end : ends) {
                greatest = Math.max(greatest, groups.merge(end.shake(c), 1, Integer::sum));
            }
            if (greatest < least) {
                least = greatest;
                best = c;
            }
        }
        return best;
    }

    public int share(int courtier, int much) {
        if (!man(courtier) || !in(much, 1, 99)) {
            return -1;
        }
        int loyal = 0;
        for (Man m : told.men) {
            loyal += m.loyal;
        }
        int[] gets = new int[told.men.size()];
        int left = much;
        for (int i = 0; i < gets.length && loyal > 0; i++) {
            gets[i] = much * told.men.get(i).loyal / loyal;
            left -= gets[i];
        }
        for (int i = 0; left > 0; i++, left--) {
            gets[i % gets.length]++;
        }
        return gets[courtier];
    }

    public int alike() {
        int pairs = 0;
        for (int i = 0; i < told.cells; i++) {
            for (int j = 0; j < i; j++) {
                pairs += now.shake(i) == now.shake(j) ? 1 : 0;
            }
        }
        return pairs;
    }

    public boolean even() {
        Now n = now.copy();
        act(n, "turn", 0, 0);
        return n.shakes.equals(now.shakes);
    }

    public int calm() {
        int best = 0;
        for (int from = 0; from < told.cells; from++) {
            for (int many = 1; many <= told.cells; many++) {
                if (arc(from, many) == 0) {
                    best = Math.max(best, many);
                }
            }
        }
        return best;
    }

    public int loud() {
        int best = -1;
        for (int c = 0; c < told.cells; c++) {
            if (now.shake(c) > (best < 0 ? 0 : now.shake(best))) {
                best = c;
            }
        }
        return best;
    }

    public int spread() {
        int most = -1;
        int least = 100;
        for (int c = 0; c < told.cells; c++) {
            if (open(now, c)) {
                most = Math.max(most, now.shake(c));
                least = Math.min(least, now.shake(c));
            }
        }
        return most < 0 ? 0 : most - least;
    }

    public int reach(int cell, int other) {
        if (!open(now, cell) || !open(now, other)) {
            return -1;
        }
        for (int i = 0; i <= 20; i++) {
            if (behind(touched(other, 20), i).shake(cell) != later(cell, i)) {
                return i;
            }
        }
        return -1;
    }

    public int arc(int cell, int many) {
        if (!in(cell, 0, told.cells - 1) || !in(many, 1, told.cells)) {
            return -1;
        }
        int s = 0;
        for (int i = 0; i < many; i++) {
            s += now.shake(cell + i);
        }
        return s;
    }

    public int calmest(int beats) {
        int best = -1;
        for (int c = 0; c < told.cells; c++) {
            if (open(now, c) && in(beats, 0, 60) && (best < 0 || later(c, beats) < later(best, beats))) {
                best = c;
            }
        }
        return best;
    }

    public int lazy() {
        int bits = 0;
        for (int i = 0; i < told.men.size(); i++) {
            bits |= totalFrom(now, i, 1) == 0 ? 1 << i : 0;
        }
        return bits;
    }

    public int post(int courtier) {
        int best = -1;
        int most = -1;
        for (int c = 0; c < told.cells && man(courtier); c++) {
            Now n = now.copy();
            n.cells.set(courtier, c);
            if (totalFrom(n, courtier, 20) > most) {
                most = totalFrom(n, courtier, 20);
                best = c;
            }
        }
        return best;
    }

    public int hush() {
        Now n = now.copy();
        int breaths = 0;
        for (int c = 0; c < told.cells; c++) {
            while (n.shake(c) > 0) {
                act(n, "breathe", c, 0);
                breaths++;
            }
        }
        return breaths;
    }

    public int rises(int cell) {
        if (!open(now, cell)) {
            return -1;
        }
        int rises = 0;
        for (int i = 1; i <= 20; i++) {
            rises += later(cell, i) > later(cell, i - 1) ? 1 : 0;
        }
        return rises;
    }

    public int chance(int cell, int beats, int odds) {
        if (!open(now, cell) || !in(beats, 1, 6) || !in(odds, 0, 10)) {
            return -1;
        }
        long whole = 1;
        for (int i = 0; i < beats; i++) {
            whole *= 10;
        }
        return (int) (weight(now, cell, beats, odds) * 1000000L / whole);
    }

    private long weight(Now from, int cell, int beats, int odds) {
        if (beats == 0) {
            return from.shake(cell) > 0 ? 1 : 0;
        }
        Now hot = from.copy();
        Now cold = from.copy();
        beat(hot, 5);
        beat(cold, 0);
        return odds * weight(hot, cell, beats - 1, odds) + (10 - odds) * weight(cold, cell, beats - 1, odds);
    }

    public int rests(int both, int loses, int gets, int what) {
        if (!in(both, 0, 9) || !in(loses, 0, 9) || !in(gets, 0, 9)) {
            throw new NoSuchElementException();
        }
        // pays[own choice][the other's]
        int[][] pays = {{0, gets}, {-loses, both}};
        List<Integer> found = new ArrayList<>();
        for (int a = 0; a < 2; a++) {
            for (int b = 0; b < 2; b++) {
                if (pays[1 - a][b] <= pays[a][b] && pays[1 - b][a] <= pays[b][a]) {
                    found.add(2 * a + b);
                }
            }
        }
        if (what == -1) {
            return found.size();
        }
        if (!in(what, 0, found.size() - 1)) {
            throw new NoSuchElementException();
        }
        return found.get(what);
    }

    private long g;

    private int draw(int m) {
        g = (g * 1103515245L + 12345) & 0x7fffffffL;
        return (int) ((g >> 16) % m);
    }

    public int years(int seed, int beats, int what) {
        if (!in(seed, 0, 9999) || !in(beats, 1, 99) || !in(what, 0, 2)) {
            return -1;
        }
        g = seed;
        Now n = now.copy();
        for (int i = 0; i < beats; i++) {
            int act = draw(8);
            if (act < 4) {
                int cell = draw(told.cells);
                act(n, "touch", cell, draw(20) + 1);
            } else if (act == 4) {
                act(n, "breathe", draw(told.cells), 0);
            } else if (act == 5) {
                act(n, "turn", 0, 0);
            } else if (act == 6 && !told.men.isEmpty()) {
                int a = draw(told.men.size());
                act(n, "change", a, draw(told.men.size()));
            }
            act(n, "beat", 0, 0);
        }
        int many = 0;
        for (int c = 0; c < told.cells; c++) {
            many += n.shake(c) > 0 ? 1 : 0;
        }
        return new int[] {sum(n.done) - sum(now.done), many, sum(n.shakes)}[what];
    }

    public boolean mark(int mark, boolean back) {
        if (!in(mark, 0, 3) || back && !markNow.containsKey(mark)) {
            return false;
        }
        if (back) {
            now = markNow.get(mark).copy();
            felt = new ArrayList<>(markFelt.get(mark));
            undos.clear();
        } else {
            markNow.put(mark, now.copy());
            markFelt.put(mark, new ArrayList<>(felt));
        }
        return true;
    }

    public int count(int what) {
        int cracked = 0;
        int shaking = 0;
        for (int c = 0; c < told.cells; c++) {
            cracked |= open(now, c) ? 0 : 1 << c;
            shaking |= now.shake(c) > 0 ? 1 << c : 0;
        }
        int[] all = {told.cells, told.men.size(), now.beat, heatOf(now.beat), sum(now.shakes), cracked, shaking,
            sum(now.done), lines.size(), felt.size(), undos.size(), tape.length()};
        return in(what, 0, 11) ? all[what] : -1;
    }
}

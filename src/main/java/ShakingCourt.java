import java.util.Arrays;
import java.util.NoSuchElementException;

/** A monarchy in a bowl: told on a tape, reigned over by hand, and asked what will shake. */
public final class ShakingCourt {
    public static final int NONE = -1;

    private static final int OTHERS = -2;

    private static final int MOST_SIGNS = 1000;
    private static final int LEAST_CELLS = 3;
    private static final int MOST_CELLS = 12;
    private static final int FIRST_CELLS = 8;
    private static final int MOST_COURTIERS = 6;
    private static final int MOST_LOYAL = 9;
    private static final int MOST_HEATS = 12;
    private static final int MOST_HEAT = 5;
    private static final int FIRST_HEAT = 2;
    private static final int MOST_LINES = 40;
    private static final int MOST_DEPTH = 5;
    private static final int MOST_SHAKE = 99;
    private static final int MOST_FORCE = 20;
    private static final int BREATH = 3;
    private static final int CHILD_BEARS = 20;
    private static final int MOST_FELT = 8;
    private static final int MOST_STEPS = 16;
    private static final int MARKS = 4;

    private static final int FAR = 60;
    private static final int NEAR = 12;
    private static final int TERM = 20;
    private static final int MOST_SHARED = 99;
    private static final int MOST_ODD_BEATS = 6;
    private static final int TEN = 10;
    private static final int MOST_PAY = 9;
    private static final int MOST_SEED = 9999;
    private static final int MOST_YEARS = 99;

    // In the order of their numbers below, a blank behind each.
    private static final String WORDS = "cells courtier at loyal heat fades reads touch breathe fork turn change beat plain spoon child maid not and or wave warm time heart ";
    private static final int WORD_SIGNS = 8;
    private static final int NUMBER_SIGNS = 4;

    // Kinds of tokens: the words by their numbers, then these; a sign is its own kind, from 40 on.
    private static final int CELLS = 0;
    private static final int COURTIER = 1;
    private static final int AT = 2;
    private static final int LOYAL = 3;
    private static final int HEAT = 4;
    private static final int FADES = 5;
    private static final int READS = 6;
    private static final int TOUCH = 7;
    private static final int BREATHE = 8;
    private static final int FORK = 9;
    private static final int TURN = 10;
    private static final int CHANGE = 11;
    private static final int BEAT = 12;
    private static final int PLAIN = 13;
    private static final int SPOON = 14;
    private static final int CHILD = 15;
    private static final int MAID = 16;
    private static final int NOT = 17;
    private static final int AND = 18;
    private static final int OR = 19;
    private static final int WAVE = 20;
    private static final int WARM = 21;
    private static final int TIME = 22;
    private static final int HEART = 23;
    private static final int OTHER_WORD = 24;
    private static final int NUMBER = 25;
    private static final int END = 26;
    private static final int NO_TOKEN = 27;

    private static final int CANT_STAND = 1;
    private static final int UNKNOWN_NAME = 2;
    private static final int TOLD_ALREADY = 3;
    private static final int NOT_AS_TOLD = 4;
    private static final int TOO_MANY = 5;
    private static final int PLACE_WEIGHT = 16;

    private final Tokens tokens;
    private final Reader reader;
    private final Court told;
    private final Reign lines;
    private final Bowl bowl;
    private final Felt felt;
    private final Past past;
    private final Play play;
    private final Seer seer;

    public ShakingCourt() {
        tokens = new Tokens();
        told = new Court();
        lines = new Reign();
        reader = new Reader(tokens, told);
        bowl = new Bowl();
        felt = new Felt();
        past = new Past();
        play = new Play(told);
        seer = new Seer(play, bowl, felt);
        told.clear();
        told.settle();
        bowl.begin(told);
    }

    public int feed(long a, long b, long c) {
        tokens.addEight(a);
        tokens.addEight(b);
        tokens.addEight(c);
        return tokens.length;
    }

    public int court() {
        int fault = reader.readCourt();
        if (fault == 0) {
            told.copy(reader.draft);
            lines.size = 0;
            play.forget();
            bowl.begin(told);
            felt.size = 0;
            past.clear();
        }
        return fault;
    }

    public int reign() {
        int fault = reader.readReign();
        if (fault == 0) {
            lines.copy(reader.draftLines);
        }
        return fault;
    }

    public int shake(int cell) {
        return bowl.isOpen(cell) ? bowl.shakes[cell] : NONE;
    }

    public int courtier(int courtier, int what) {
        if (!bowl.isCourtier(courtier)) {
            return OTHERS;
        }
        switch (what) {
            case 0: return told.kinds[courtier] - PLAIN;
            case 1: return bowl.places[courtier];
            case 2: return told.hearts[courtier];
            case 3: return bowl.done[courtier];
            default: return OTHERS;
        }
    }

    public int touch(int cell, int force) {
        if (!isWithin(force, 1, MOST_FORCE) || !actByHand(TOUCH, cell, force)) {
            return NONE;
        }
        return bowl.shakes[cell];
    }

    public int breathe(int cell) {
        return actByHand(BREATHE, cell, 0) ? bowl.shakes[cell] : NONE;
    }

    public boolean fork(int cell) {
        return actByHand(FORK, cell, 0);
    }

    public boolean turn() {
        boolean same = bowl.isEven();
        actByHand(TURN, 0, 0);
        return !same;
    }

    public boolean change(int courtier, int other) {
        return actByHand(CHANGE, courtier, other);
    }

    public int beat() {
        past.keep(bowl);
        return play.pass(bowl, 1);
    }

    public boolean undo() {
        return past.stepBack(bowl);
    }

    public int judged(int what) {
        return isWithin(what, 0, 2) ? seer.judge(told, lines, what) : OTHERS;
    }

    public int later(int cell, int beats) {
        if (!bowl.isOpen(cell) || !isWithin(beats, 0, FAR)) {
            return NONE;
        }
        return seer.shakeBehind(cell, beats);
    }

    public int still() {
        return seer.firstStill();
    }

    public int peak(int cell) {
        return bowl.isOpen(cell) ? seer.firstPeak(cell) : NONE;
    }

    public int total(int courtier, int beats) {
        if (!bowl.isCourtier(courtier) || !isWithin(beats, 1, FAR)) {
            return NONE;
        }
        return seer.totalOf(courtier, beats);
    }

    public int nudge(int cell, int beats, int shake, int what) {
        if (!bowl.isOpen(cell) || !isWithin(beats, 0, NEAR)
                || !isWithin(shake, 1, MOST_SHAKE) || !isWithin(what, 0, 1)) {
            return NONE;
        }
        return seer.leastTouch(cell, beats, shake, what);
    }

    public int guard(int courtier) {
        return bowl.isCourtier(courtier) ? seer.bestFork(courtier) : NONE;
    }

    public int swap() {
        return seer.bestChange();
    }

    public boolean feel(int cell, int beats, int shake) {
        if (!bowl.isOpen(cell) || !isWithin(beats, 0, NEAR) || !isWithin(shake, 0, MOST_SHAKE)) {
            return false;
        }
        return felt.add(cell, beats, shake);
    }

    public int ways(int what) {
        return isWithin(what, 0, 3) ? seer.allWays(what) : NONE;
    }

    public int look(int beats) {
        return isWithin(beats, 0, NEAR) ? seer.bestFeel(beats) : NONE;
    }

    public int share(int courtier, int much) {
        if (!bowl.isCourtier(courtier) || !isWithin(much, 1, MOST_SHARED)) {
            return NONE;
        }
        return told.shareOf(courtier, much);
    }

    public int alike() {
        return bowl.pairsAlike();
    }

    public boolean even() {
        return bowl.isEven();
    }

    public int calm() {
        return bowl.widestCalm();
    }

    public int loud() {
        return bowl.loudest();
    }

    public int spread() {
        return bowl.range();
    }

    public int reach(int cell, int other) {
        return bowl.isOpen(cell) && bowl.isOpen(other) ? seer.firstReach(cell, other) : NONE;
    }

    public int arc(int cell, int many) {
        if (!bowl.isCell(cell) || !isWithin(many, 1, bowl.cells)) {
            return NONE;
        }
        return bowl.sumFrom(cell, many);
    }

    public int calmest(int beats) {
        return isWithin(beats, 0, FAR) ? seer.calmestCell(beats) : NONE;
    }

    public int lazy() {
        return seer.idleBits();
    }

    public int post(int courtier) {
        return bowl.isCourtier(courtier) ? seer.bestPlace(courtier) : NONE;
    }

    public int hush() {
        return bowl.breathsToStill();
    }

    public int rises(int cell) {
        return bowl.isOpen(cell) ? seer.risesOf(cell) : NONE;
    }

    public int chance(int cell, int beats, int odds) {
        if (!bowl.isOpen(cell) || !isWithin(beats, 1, MOST_ODD_BEATS) || !isWithin(odds, 0, TEN)) {
            return NONE;
        }
        return seer.millionths(cell, beats, odds);
    }

    public int rests(int both, int loses, int gets, int what) throws NoSuchElementException {
        if (!isWithin(both, 0, MOST_PAY) || !isWithin(loses, 0, MOST_PAY)
                || !isWithin(gets, 0, MOST_PAY) || what < NONE) {
            throw new NoSuchElementException("no such serving");
        }
        int found = 0;
        for (int pair = 0; pair < 4; pair++) {
            if (Seer.isRest(pair >> 1, pair & 1, both, loses, gets)) {
                if (found == what) {
                    return pair;
                }
                found++;
            }
        }
        if (what != NONE) {
            throw new NoSuchElementException("no such rest");
        }
        return found;
    }

    public int years(int seed, int beats, int what) {
        if (!isWithin(seed, 0, MOST_SEED) || !isWithin(beats, 1, MOST_YEARS) || !isWithin(what, 0, 2)) {
            return NONE;
        }
        return seer.drawYears(seed, beats, what);
    }

    public boolean mark(int mark, boolean back) {
        if (!isWithin(mark, 0, MARKS - 1)) {
            return false;
        }
        if (back) {
            return past.goBack(mark, bowl, felt);
        }
        past.lay(mark, bowl, felt);
        return true;
    }

    public int count(int what) {
        switch (what) {
            case 0: return bowl.cells;
            case 1: return bowl.courtiers;
            case 2: return bowl.time;
            case 3: return told.heatAt(bowl.time);
            case 4: return bowl.sumFrom(0, bowl.cells);
            case 5: return bowl.cracks;
            case 6: return bowl.shakingBits();
            case 7: return bowl.allDone();
            case 8: return lines.size;
            case 9: return felt.size;
            case 10: return past.kept;
            case 11: return tokens.length;
            default: return NONE;
        }
    }

    private boolean actByHand(int act, int first, int second) {
        if (!bowl.canBe(act, first, second)) {
            return false;
        }
        past.keep(bowl);
        bowl.perform(act, first, second);
        return true;
    }

    private static boolean isWithin(int value, int least, int most) {
        return value >= least && value <= most;
    }

    /** The tape, and the token that a reading of it has come to. */
    private static final class Tokens {
        private final byte[] signs = new byte[MOST_SIGNS];
        int length;
        int kind;
        int number;
        long name;
        int taken;
        int fault;
        private int place;
        private int next;

        void addEight(long eight) {
            for (int shift = 56; shift >= 0; shift -= 8) {
                int sign = (int) (eight >>> shift) & 255;
                boolean counts = sign == 10 || isWithin(sign, 32, 126);
                if (counts && length < MOST_SIGNS) {
                    signs[length] = (byte) sign;
                    length++;
                }
            }
        }

        void begin() {
            next = 0;
            fault = 0;
            advance();
        }

        int finish() {
            length = 0;
            return fault;
        }

        boolean fail(int faultKind) {
            fault = faultKind + PLACE_WEIGHT * place;
            return false;
        }

        boolean take(int wanted) {
            if (kind != wanted) {
                return fail(CANT_STAND);
            }
            advance();
            return true;
        }

        boolean takeNumber(int least, int most) {
            if (kind != NUMBER) {
                return fail(CANT_STAND);
            }
            if (!isWithin(number, least, most)) {
                return fail(NOT_AS_TOLD);
            }
            taken = number;
            advance();
            return true;
        }

        // The facts are words of an E only: a courtier may be named like one.
        boolean isName() {
            return kind == OTHER_WORD || isWithin(kind, WAVE, HEART);
        }

        void advance() {
            while (next < length && (signs[next] == 10 || signs[next] == 32)) {
                next++;
            }
            place = next;
            if (place >= length) {
                kind = END;
            } else if (isLetter(signs[place])) {
                readName();
                kind = next - place > WORD_SIGNS ? NO_TOKEN : wordNumber();
            } else if (isDigit(signs[place])) {
                readNumber();
            } else {
                int sign = signs[place];
                kind = isTokenSign(sign) ? sign : NO_TOKEN;
                next = place + 1;
            }
        }

        private void readName() {
            name = 0;
            while (next < length && isLetter(signs[next])) {
                name = name << 8 | signs[next];
                next++;
            }
        }

        private void readNumber() {
            number = 0;
            while (next < length && isDigit(signs[next])) {
                number = number * 10 + signs[next] - '0';
                next++;
            }
            kind = next - place > NUMBER_SIGNS ? NO_TOKEN : NUMBER;
        }

        private int wordNumber() {
            long word = 0;
            int found = 0;
            for (int i = 0; i < WORDS.length(); i++) {
                char sign = WORDS.charAt(i);
                if (sign != ' ') {
                    word = word << 8 | sign;
                } else if (word == name) {
                    return found;
                } else {
                    word = 0;
                    found++;
                }
            }
            return OTHER_WORD;
        }

        private static boolean isLetter(int sign) {
            return sign >= 'a' && sign <= 'z';
        }

        private static boolean isDigit(int sign) {
            return sign >= '0' && sign <= '9';
        }

        private static boolean isTokenSign(int sign) {
            switch (sign) {
                case '(': case ')': case '<': case '=': case '+': case '-': case '*': case ';':
                    return true;
                default:
                    return false;
            }
        }
    }

    /** An E in the order in which it is worked out: numbers as they are, all else as ~kind. */
    private static final class Law {
        // Four half-done signs on each of five levels, and the part at hand, are the most.
        private static final int STACK = 32;

        private final int[] code;
        private final int[] stack = new int[STACK];
        private final int[] facts = new int[HEART - WAVE + 1];
        int from;
        int end;

        Law(int[] sharedCode) {
            code = sharedCode;
        }

        void copyRange(Law other) {
            from = other.from;
            end = other.end;
        }

        void add(int item) {
            if (end < code.length) {
                code[end] = item;
                end++;
            }
        }

        /** What the E comes to, kept within 0 to 99 as fades and reads both are. */
        int valueWithin(int wave, int warm, int time, int heart) {
            facts[0] = wave;
            facts[1] = warm;
            facts[2] = time;
            facts[3] = heart;
            int top = 0;
            for (int i = from; i < end; i++) {
                int item = code[i];
                int kind = ~item;
                boolean isFact = kind >= WAVE && kind <= HEART;
                if ((item >= 0 || isFact) && top < STACK) {
                    stack[top] = isFact ? facts[kind - WAVE] : item;
                    top++;
                } else if (kind == NOT && top >= 1) {
                    stack[top - 1] = stack[top - 1] == 0 ? 1 : 0;
                } else if (top >= 2) {
                    top--;
                    stack[top - 1] = join(kind, stack[top - 1], stack[top]);
                }
            }
            return top > 0 ? Math.max(0, Math.min(MOST_SHAKE, stack[0])) : 0;
        }

        private static int join(int kind, int left, int right) {
            switch (kind) {
                case '*': return left * right;
                case '+': return left + right;
                case '-': return left - right;
                case '<': return left < right ? 1 : 0;
                case '=': return left == right ? 1 : 0;
                case AND: return left != 0 && right != 0 ? 1 : 0;
                default: return left != 0 || right != 0 ? 1 : 0;
            }
        }
    }

    /** A court as it was told. */
    private static final class Court {
        int cells;
        int courtiers;
        final int[] kinds = new int[MOST_COURTIERS];
        final int[] places = new int[MOST_COURTIERS];
        final int[] hearts = new int[MOST_COURTIERS];
        final long[] names = new long[MOST_COURTIERS];
        final int[] heats = new int[MOST_HEATS];
        int heatCount;
        // Both laws come from one tape, so that one row of its length holds them.
        private final int[] code = new int[MOST_SIGNS];
        final Law fades = new Law(code);
        final Law reads = new Law(code);
        private int toldOnce;

        void clear() {
            cells = FIRST_CELLS;
            courtiers = 0;
            heats[0] = FIRST_HEAT;
            heatCount = 1;
            toldOnce = 0;
            fades.from = 0;
            fades.end = 0;
            reads.from = 0;
            reads.end = 0;
        }

        boolean isToldOnce(int word) {
            return (toldOnce & 1 << word) != 0;
        }

        void tellOnce(int word) {
            toldOnce |= 1 << word;
        }

        Law openLaw(int word) {
            Law law = word == FADES ? fades : reads;
            law.from = Math.max(fades.end, reads.end);
            law.end = law.from;
            return law;
        }

        void settle() {
            for (int i = 0; i < courtiers; i++) {
                places[i] = Math.min(places[i], cells - 1);
            }
            if (!isToldOnce(FADES)) {
                openLaw(FADES).add(1);
            }
            if (!isToldOnce(READS)) {
                openLaw(READS).add(~WAVE);
            }
        }

        void copy(Court other) {
            cells = other.cells;
            courtiers = other.courtiers;
            heatCount = other.heatCount;
            toldOnce = other.toldOnce;
            System.arraycopy(other.kinds, 0, kinds, 0, MOST_COURTIERS);
            System.arraycopy(other.places, 0, places, 0, MOST_COURTIERS);
            System.arraycopy(other.hearts, 0, hearts, 0, MOST_COURTIERS);
            System.arraycopy(other.names, 0, names, 0, MOST_COURTIERS);
            System.arraycopy(other.heats, 0, heats, 0, MOST_HEATS);
            System.arraycopy(other.code, 0, code, 0, MOST_SIGNS);
            fades.copyRange(other.fades);
            reads.copyRange(other.reads);
        }

        int find(long name) {
            for (int i = 0; i < courtiers; i++) {
                if (names[i] == name) {
                    return i;
                }
            }
            return NONE;
        }

        int heatAt(int time) {
            return heatCount > 0 ? heats[Math.floorMod(time, heatCount)] : FIRST_HEAT;
        }

        int shareOf(int courtier, int much) {
            int loyal = 0;
            for (int i = 0; i < courtiers; i++) {
                loyal += hearts[i];
            }
            int left = much;
            for (int i = 0; i < courtiers; i++) {
                left -= partOf(i, much, loyal);
            }
            // Of what is left, round and round: all full rounds, and one more to the first ones.
            int rounds = courtiers > 0 ? left / courtiers : 0;
            int more = courtier < left - rounds * courtiers ? 1 : 0;
            return partOf(courtier, much, loyal) + rounds + more;
        }

        private int partOf(int courtier, int much, int loyal) {
            return loyal > 0 ? much * hearts[courtier] / loyal : 0;
        }
    }

    /** The lines of a reign as they were told. */
    private static final class Reign {
        int size;
        final int[] acts = new int[MOST_LINES];
        final int[] firsts = new int[MOST_LINES];
        final int[] seconds = new int[MOST_LINES];

        void copy(Reign other) {
            size = other.size;
            System.arraycopy(other.acts, 0, acts, 0, MOST_LINES);
            System.arraycopy(other.firsts, 0, firsts, 0, MOST_LINES);
            System.arraycopy(other.seconds, 0, seconds, 0, MOST_LINES);
        }

        void add(int act, int first, int second) {
            if (size < MOST_LINES) {
                acts[size] = act;
                firsts[size] = first;
                seconds[size] = second;
                size++;
            }
        }
    }

    /** Reads the tape into drafts, so that a fault leaves all that stands as it is. */
    private static final class Reader {
        private static final int LEVEL_LOGIC = 0;
        private static final int LEVEL_TEST = 1;
        private static final int LEVEL_SUM = 2;
        private static final int LEVEL_PRODUCT = 3;
        private static final int LEVEL_PART = 4;

        private final Tokens tokens;
        private final Court told;
        final Court draft = new Court();
        final Reign draftLines = new Reign();
        private Law law;
        private boolean heartMayStand;

        Reader(Tokens theTokens, Court theTold) {
            tokens = theTokens;
            told = theTold;
            law = draft.fades;
        }

        int readCourt() {
            draft.clear();
            tokens.begin();
            boolean fine = true;
            for (int i = 0; i <= MOST_SIGNS && fine && tokens.kind != END; i++) {
                switch (tokens.kind) {
                    case CELLS: fine = readCells(); break;
                    case COURTIER: fine = readCourtier(); break;
                    case HEAT: fine = readHeat(); break;
                    case FADES: case READS: fine = readLaw(); break;
                    default: fine = tokens.fail(CANT_STAND); break;
                }
            }
            if (fine) {
                draft.settle();
            }
            return tokens.finish();
        }

        int readReign() {
            draftLines.size = 0;
            tokens.begin();
            boolean fine = true;
            for (int i = 0; i <= MOST_SIGNS && fine && tokens.kind != END; i++) {
                fine = readReignLine();
            }
            return tokens.finish();
        }

        private boolean takeOnce() {
            if (draft.isToldOnce(tokens.kind)) {
                return tokens.fail(TOLD_ALREADY);
            }
            draft.tellOnce(tokens.kind);
            tokens.advance();
            return true;
        }

        private boolean readCells() {
            if (!takeOnce() || !tokens.takeNumber(LEAST_CELLS, MOST_CELLS)) {
                return false;
            }
            draft.cells = tokens.taken;
            return tokens.take(';');
        }

        private boolean readCourtier() {
            int courtier = draft.courtiers;
            if (courtier >= MOST_COURTIERS) {
                return tokens.fail(TOO_MANY);
            }
            tokens.advance();
            if (!takeNewName(courtier) || !takeKind(courtier)) {
                return false;
            }
            if (!tokens.take(AT) || !tokens.takeNumber(0, MOST_CELLS - 1)) {
                return false;
            }
            draft.places[courtier] = tokens.taken;
            if (!tokens.take(LOYAL) || !tokens.takeNumber(0, MOST_LOYAL)) {
                return false;
            }
            draft.hearts[courtier] = tokens.taken;
            draft.courtiers++;
            return tokens.take(';');
        }

        private boolean takeNewName(int courtier) {
            if (!tokens.isName()) {
                return tokens.fail(CANT_STAND);
            }
            if (draft.find(tokens.name) != NONE) {
                return tokens.fail(TOLD_ALREADY);
            }
            draft.names[courtier] = tokens.name;
            tokens.advance();
            return true;
        }

        private boolean takeKind(int courtier) {
            if (!isWithin(tokens.kind, PLAIN, MAID)) {
                return tokens.fail(CANT_STAND);
            }
            draft.kinds[courtier] = tokens.kind;
            tokens.advance();
            return true;
        }

        private boolean readHeat() {
            if (!takeOnce()) {
                return false;
            }
            draft.heatCount = 0;
            for (int i = 0; i < MOST_HEATS && (i == 0 || tokens.kind == NUMBER); i++) {
                if (!tokens.takeNumber(0, MOST_HEAT)) {
                    return false;
                }
                draft.heats[i] = tokens.taken;
                draft.heatCount++;
            }
            if (tokens.kind == NUMBER) {
                // A thirteenth that is not as told, too, is wrong by the lesser kind.
                return tokens.fail(isWithin(tokens.number, 0, MOST_HEAT) ? TOO_MANY : NOT_AS_TOLD);
            }
            return tokens.take(';');
        }

        private boolean readLaw() {
            int word = tokens.kind;
            if (!takeOnce()) {
                return false;
            }
            law = draft.openLaw(word);
            heartMayStand = word == READS;
            return readLevel(LEVEL_LOGIC, 0) && tokens.take(';');
        }

        private boolean readLevel(int level, int depth) {
            if (level >= LEVEL_PART) {
                return readPart(depth);
            }
            if (!readLevel(level + 1, depth)) {
                return false;
            }
            // Of < and = one SUM takes at most one; a second one is left to whoever wants an end.
            int most = level == LEVEL_TEST ? 1 : MOST_SIGNS;
            for (int i = 0; i < most && levelOf(tokens.kind) == level; i++) {
                int kind = tokens.kind;
                tokens.advance();
                if (!readLevel(level + 1, depth)) {
                    return false;
                }
                law.add(~kind);
            }
            return true;
        }

        private static int levelOf(int kind) {
            switch (kind) {
                case AND: case OR: return LEVEL_LOGIC;
                case '<': case '=': return LEVEL_TEST;
                case '+': case '-': return LEVEL_SUM;
                case '*': return LEVEL_PRODUCT;
                default: return NONE;
            }
        }

        private boolean readPart(int depth) {
            int kind = tokens.kind;
            if (!startsPart(kind)) {
                return tokens.fail(CANT_STAND);
            }
            if (depth >= MOST_DEPTH) {
                return tokens.fail(TOO_MANY);
            }
            int number = tokens.number;
            tokens.advance();
            if (kind == '(') {
                if (!readLevel(LEVEL_LOGIC, depth + 1)) {
                    return false;
                }
                if (tokens.kind != ')') {
                    return tokens.fail(CANT_STAND);
                }
                tokens.advance();
                return true;
            }
            if (kind == NOT && !readPart(depth + 1)) {
                return false;
            }
            law.add(kind == NUMBER ? number : ~kind);
            return true;
        }

        private boolean startsPart(int kind) {
            switch (kind) {
                case NUMBER: case NOT: case WAVE: case WARM: case TIME: case '(':
                    return true;
                default:
                    return kind == HEART && heartMayStand;
            }
        }

        private boolean readReignLine() {
            int act = tokens.kind;
            if (!isWithin(act, TOUCH, BEAT)) {
                return tokens.fail(CANT_STAND);
            }
            if (draftLines.size >= MOST_LINES) {
                return tokens.fail(TOO_MANY);
            }
            tokens.advance();
            switch (act) {
                case TOUCH: return readTouch();
                case CHANGE: return readChange();
                case BREATHE: case FORK: return readCellAct(act);
                default:
                    draftLines.add(act, 0, 0);
                    return tokens.take(';');
            }
        }

        private boolean readTouch() {
            if (!tokens.takeNumber(0, MOST_CELLS - 1)) {
                return false;
            }
            int cell = tokens.taken;
            if (!tokens.takeNumber(1, MOST_FORCE)) {
                return false;
            }
            draftLines.add(TOUCH, cell, tokens.taken);
            return tokens.take(';');
        }

        private boolean readCellAct(int act) {
            if (!tokens.takeNumber(0, MOST_CELLS - 1)) {
                return false;
            }
            draftLines.add(act, tokens.taken, 0);
            return tokens.take(';');
        }

        private boolean readChange() {
            if (!takeToldName()) {
                return false;
            }
            int first = tokens.taken;
            if (tokens.isName() && told.find(tokens.name) == first) {
                return tokens.fail(TOLD_ALREADY);
            }
            if (!takeToldName()) {
                return false;
            }
            draftLines.add(CHANGE, first, tokens.taken);
            return tokens.take(';');
        }

        private boolean takeToldName() {
            if (!tokens.isName()) {
                return tokens.fail(CANT_STAND);
            }
            int courtier = told.find(tokens.name);
            if (courtier == NONE) {
                return tokens.fail(UNKNOWN_NAME);
            }
            tokens.taken = courtier;
            tokens.advance();
            return true;
        }
    }

    /** How the bowl is at one time: all that undoing brings back. A cracked cell's shake is 0. */
    private static final class Bowl {
        int cells;
        int courtiers;
        int time;
        int cracks;
        final int[] shakes = new int[MOST_CELLS];
        final int[] places = new int[MOST_COURTIERS];
        final int[] done = new int[MOST_COURTIERS];

        void begin(Court told) {
            cells = told.cells;
            courtiers = told.courtiers;
            time = 0;
            cracks = 0;
            Arrays.fill(shakes, 0);
            Arrays.fill(done, 0);
            System.arraycopy(told.places, 0, places, 0, MOST_COURTIERS);
        }

        void copy(Bowl other) {
            cells = other.cells;
            courtiers = other.courtiers;
            time = other.time;
            cracks = other.cracks;
            System.arraycopy(other.shakes, 0, shakes, 0, MOST_CELLS);
            System.arraycopy(other.places, 0, places, 0, MOST_COURTIERS);
            System.arraycopy(other.done, 0, done, 0, MOST_COURTIERS);
        }

        boolean isCell(int cell) {
            return isWithin(cell, 0, cells - 1);
        }

        boolean isCracked(int cell) {
            return (cracks & 1 << cell) != 0;
        }

        boolean isOpen(int cell) {
            return isCell(cell) && !isCracked(cell);
        }

        boolean isCourtier(int courtier) {
            return isWithin(courtier, 0, courtiers - 1);
        }

        boolean canBe(int act, int first, int second) {
            switch (act) {
                case TOUCH: case FORK: return isOpen(first);
                case BREATHE: return isCell(first);
                case CHANGE: return isCourtier(first) && isCourtier(second) && first != second;
                default: return true;
            }
        }

        // Any act but a beat, which needs the court's laws.
        void perform(int act, int first, int second) {
            switch (act) {
                case TOUCH: push(first, second); break;
                case BREATHE: soothe(first); break;
                case FORK: crack(first); break;
                case TURN: turnOut(); break;
                case CHANGE: exchange(first, second); break;
                default: break;
            }
        }

        void push(int cell, int force) {
            shakes[cell] = Math.min(MOST_SHAKE, shakes[cell] + force);
        }

        void soothe(int cell) {
            shakes[cell] = Math.max(0, shakes[cell] - BREATH);
        }

        void crack(int cell) {
            cracks |= 1 << cell;
            shakes[cell] = 0;
        }

        void turnOut() {
            int turned = 0;
            for (int i = 0; i < cells; i++) {
                if (isCracked(i)) {
                    turned |= 1 << (cells - 1 - i);
                }
            }
            cracks = turned;
            for (int i = 0, j = cells - 1; i < j; i++, j--) {
                int kept = shakes[i];
                shakes[i] = shakes[j];
                shakes[j] = kept;
            }
        }

        void exchange(int courtier, int other) {
            int kept = places[courtier];
            places[courtier] = places[other];
            places[other] = kept;
        }

        int cellBehind(int cell) {
            return cell + 1 < cells ? cell + 1 : 0;
        }

        int cellAhead(int cell) {
            return cell > 0 ? cell - 1 : cells - 1;
        }

        int allDone() {
            int all = 0;
            for (int i = 0; i < courtiers; i++) {
                all += done[i];
            }
            return all;
        }

        int shakingBits() {
            int bits = 0;
            for (int i = 0; i < cells; i++) {
                if (shakes[i] > 0) {
                    bits |= 1 << i;
                }
            }
            return bits;
        }

        boolean allOpenShake() {
            int all = (1 << cells) - 1;
            return cracks != all && (shakingBits() | cracks) == all;
        }

        int pairsAlike() {
            int pairs = 0;
            for (int i = 0; i < cells; i++) {
                for (int j = i + 1; j < cells; j++) {
                    if (shakes[i] == shakes[j]) {
                        pairs++;
                    }
                }
            }
            return pairs;
        }

        boolean isEven() {
            for (int i = 0, j = cells - 1; i < j; i++, j--) {
                if (shakes[i] != shakes[j] || isCracked(i) != isCracked(j)) {
                    return false;
                }
            }
            return true;
        }

        int widestCalm() {
            int widest = 0;
            int run = 0;
            // Twice round, as a calm may lie across the ring's seam.
            for (int i = 0; i < 2 * cells; i++) {
                int cell = i < cells ? i : i - cells;
                run = shakes[cell] > 0 ? 0 : run + 1;
                widest = Math.max(widest, run);
            }
            return Math.min(widest, cells);
        }

        int loudest() {
            int found = NONE;
            int most = 0;
            for (int i = 0; i < cells; i++) {
                if (shakes[i] > most) {
                    most = shakes[i];
                    found = i;
                }
            }
            return found;
        }

        int quietestOpen() {
            int found = NONE;
            for (int i = 0; i < cells; i++) {
                if (!isCracked(i) && (found == NONE || shakes[i] < shakes[found])) {
                    found = i;
                }
            }
            return found;
        }

        int range() {
            int quiet = quietestOpen();
            int loud = loudest();
            return quiet == NONE || loud == NONE ? 0 : shakes[loud] - shakes[quiet];
        }

        int sumFrom(int cell, int many) {
            int sum = 0;
            int at = cell;
            for (int i = 0; i < many; i++) {
                sum += shakes[at];
                at = cellBehind(at);
            }
            return sum;
        }

        int breathsToStill() {
            int breaths = 0;
            for (int i = 0; i < cells; i++) {
                breaths += (shakes[i] + BREATH - 1) / BREATH;
            }
            return breaths;
        }
    }

    /** What was felt: behind so many beats a cell shakes so. */
    private static final class Felt {
        int size;
        private final int[] cells = new int[MOST_FELT];
        private final int[] beats = new int[MOST_FELT];
        private final int[] shakes = new int[MOST_FELT];

        boolean add(int cell, int beat, int shake) {
            if (size >= MOST_FELT) {
                return false;
            }
            cells[size] = cell;
            beats[size] = beat;
            shakes[size] = shake;
            size++;
            return true;
        }

        void copy(Felt other) {
            size = other.size;
            System.arraycopy(other.cells, 0, cells, 0, MOST_FELT);
            System.arraycopy(other.beats, 0, beats, 0, MOST_FELT);
            System.arraycopy(other.shakes, 0, shakes, 0, MOST_FELT);
        }

        int lastBeat() {
            int last = NONE;
            for (int i = 0; i < size; i++) {
                last = Math.max(last, beats[i]);
            }
            return last;
        }

        boolean agrees(Bowl bowl, int beat) {
            for (int i = 0; i < size; i++) {
                if (beats[i] == beat && bowl.shakes[cells[i]] != shakes[i]) {
                    return false;
                }
            }
            return true;
        }
    }

    /** What can be undone, and the marks. */
    private static final class Past {
        private final Bowl[] steps = new Bowl[MOST_STEPS];
        private int next;
        int kept;
        private final Bowl[] markBowls = new Bowl[MARKS];
        private final Felt[] markFelts = new Felt[MARKS];
        private int laid;

        Past() {
            for (int i = 0; i < MOST_STEPS; i++) {
                steps[i] = new Bowl();
            }
            for (int i = 0; i < MARKS; i++) {
                markBowls[i] = new Bowl();
                markFelts[i] = new Felt();
            }
        }

        void clear() {
            kept = 0;
            laid = 0;
        }

        void keep(Bowl bowl) {
            steps[next].copy(bowl);
            next = next + 1 < MOST_STEPS ? next + 1 : 0;
            kept = Math.min(MOST_STEPS, kept + 1);
        }

        boolean stepBack(Bowl bowl) {
            if (kept == 0) {
                return false;
            }
            next = next > 0 ? next - 1 : MOST_STEPS - 1;
            kept--;
            bowl.copy(steps[next]);
            return true;
        }

        void lay(int mark, Bowl bowl, Felt felt) {
            markBowls[mark].copy(bowl);
            markFelts[mark].copy(felt);
            laid |= 1 << mark;
        }

        boolean goBack(int mark, Bowl bowl, Felt felt) {
            if ((laid & 1 << mark) == 0) {
                return false;
            }
            bowl.copy(markBowls[mark]);
            felt.copy(markFelts[mark]);
            kept = 0;
            return true;
        }
    }

    /** How a bowl goes on under the laws of the court. */
    private static final class Play {
        // Rows of what fades, by wave, for some beats: the many trials of one question all go
        // through the same beats, and a law may be long.
        private static final int ROWS = 16;
        private static final int ROW = MOST_SHAKE + 1;
        private static final int VALUE_BITS = 7;

        private final Court told;
        private final int[] ahead = new int[MOST_CELLS];
        private final int[] faded = new int[ROWS * ROW];

        Play(Court theTold) {
            told = theTold;
        }

        void forget() {
            Arrays.fill(faded, 0);
        }

        /** So many beats go by; answers what all do by them. */
        int pass(Bowl bowl, int beats) {
            int all = 0;
            for (int i = 0; i < beats; i++) {
                int heat = told.heatAt(bowl.time);
                ripple(bowl, heat);
                all += serve(bowl, heat);
                bowl.time++;
            }
            return all;
        }

        // Who only asks for shakes need not have the courtiers read.
        void drift(Bowl bowl, int beats) {
            for (int i = 0; i < beats; i++) {
                ripple(bowl, told.heatAt(bowl.time));
                bowl.time++;
            }
        }

        void driftInHeat(Bowl bowl, int heat) {
            ripple(bowl, heat);
            bowl.time++;
        }

        private void ripple(Bowl bowl, int heat) {
            System.arraycopy(bowl.shakes, 0, ahead, 0, MOST_CELLS);
            for (int i = 0; i < bowl.cells; i++) {
                if (!bowl.isCracked(i)) {
                    int wave = (ahead[bowl.cellAhead(i)] + ahead[bowl.cellBehind(i)]) / 2;
                    bowl.shakes[i] = wave == 0 ? 0 : Math.max(0, wave - fadeOf(wave, heat, bowl.time));
                }
            }
        }

        private int fadeOf(int wave, int heat, int time) {
            int key = time * (MOST_HEAT + 1) + heat + 1;
            int slot = Math.floorMod(time, ROWS) * ROW + wave;
            if (slot < 0 || slot >= faded.length) {
                return told.fades.valueWithin(wave, heat, time, 0);
            }
            int kept = faded[slot];
            if (kept >> VALUE_BITS == key) {
                return kept & (1 << VALUE_BITS) - 1;
            }
            int fade = told.fades.valueWithin(wave, heat, time, 0);
            faded[slot] = key << VALUE_BITS | fade;
            return fade;
        }

        private int serve(Bowl bowl, int heat) {
            int all = 0;
            for (int i = 0; i < bowl.courtiers; i++) {
                int deed = deedOf(bowl, i, heat);
                bowl.done[i] += deed;
                all += deed;
            }
            return all;
        }

        private int deedOf(Bowl bowl, int courtier, int heat) {
            int cell = bowl.places[courtier];
            int kind = told.kinds[courtier];
            int shake = bowl.shakes[cell];
            if (kind == CHILD && shake > CHILD_BEARS) {
                return 0;
            }
            int heart = told.hearts[courtier];
            int deed = told.reads.valueWithin(shake, heat, bowl.time, heart);
            if (kind == SPOON) {
                int behind = bowl.shakes[bowl.cellBehind(cell)];
                deed += told.reads.valueWithin(behind, heat, bowl.time, heart);
            }
            return kind == MAID && shake > 0 ? deed + 1 : deed;
        }
    }

    /** Answers what would be, on bowls of its own. */
    private static final class Seer {
        private final Play play;
        private final Bowl now;
        private final Felt felt;
        private final Bowl trial = new Bowl();
        private final Bowl untouched = new Bowl();
        private final int[] tally = new int[MOST_CELLS * (MOST_SHAKE + 1)];
        private long drawn;

        Seer(Play thePlay, Bowl theNow, Felt theFelt) {
            play = thePlay;
            now = theNow;
            felt = theFelt;
        }

        int judge(Court told, Reign lines, int what) {
            int firstWrong = NONE;
            int firstShaking = NONE;
            trial.begin(told);
            for (int i = 0; i < lines.size; i++) {
                if (lines.acts[i] == BEAT) {
                    play.pass(trial, 1);
                } else if (trial.canBe(lines.acts[i], lines.firsts[i], lines.seconds[i])) {
                    trial.perform(lines.acts[i], lines.firsts[i], lines.seconds[i]);
                } else if (firstWrong == NONE) {
                    firstWrong = i;
                }
                if (firstShaking == NONE && trial.allOpenShake()) {
                    firstShaking = i;
                }
            }
            if (what == 2) {
                return trial.allDone();
            }
            return what == 0 ? firstWrong : firstShaking;
        }

        int shakeBehind(int cell, int beats) {
            trial.copy(now);
            play.drift(trial, beats);
            return trial.shakes[cell];
        }

        int firstStill() {
            trial.copy(now);
            for (int beat = 0; beat <= FAR; beat++) {
                if (trial.shakingBits() == 0) {
                    return beat;
                }
                play.drift(trial, 1);
            }
            return NONE;
        }

        int firstPeak(int cell) {
            trial.copy(now);
            int found = 0;
            int most = trial.shakes[cell];
            for (int beat = 1; beat <= FAR; beat++) {
                play.drift(trial, 1);
                if (trial.shakes[cell] > most) {
                    most = trial.shakes[cell];
                    found = beat;
                }
            }
            return found;
        }

        int totalOf(int courtier, int beats) {
            trial.copy(now);
            play.pass(trial, beats);
            return trial.done[courtier] - now.done[courtier];
        }

        int leastTouch(int cell, int beats, int shake, int what) {
            for (int force = 1; force <= MOST_FORCE; force++) {
                for (int where = 0; where < now.cells; where++) {
                    if (now.isCracked(where)) {
                        continue;
                    }
                    tryTouch(where, force);
                    play.drift(trial, beats);
                    if (trial.shakes[cell] >= shake) {
                        return what == 0 ? force : where;
                    }
                }
            }
            return NONE;
        }

        private void tryTouch(int where, int force) {
            trial.copy(now);
            trial.push(where, force);
        }

        int bestFork(int courtier) {
            int found = NONE;
            int least = 0;
            for (int cell = 0; cell < now.cells; cell++) {
                if (now.isCracked(cell)) {
                    continue;
                }
                trial.copy(now);
                trial.crack(cell);
                play.pass(trial, TERM);
                if (found == NONE || trial.done[courtier] < least) {
                    found = cell;
                    least = trial.done[courtier];
                }
            }
            return found;
        }

        int bestChange() {
            trial.copy(now);
            int most = play.pass(trial, TERM);
            int found = NONE;
            for (int i = 0; i < now.courtiers; i++) {
                for (int j = i + 1; j < now.courtiers; j++) {
                    trial.copy(now);
                    trial.exchange(i, j);
                    int all = play.pass(trial, TERM);
                    if (all > most) {
                        most = all;
                        found = 8 * i + j;
                    }
                }
            }
            return found;
        }

        int bestPlace(int courtier) {
            int found = NONE;
            int most = 0;
            for (int cell = 0; cell < now.cells; cell++) {
                trial.copy(now);
                trial.places[courtier] = cell;
                play.pass(trial, TERM);
                if (found == NONE || trial.done[courtier] > most) {
                    found = cell;
                    most = trial.done[courtier];
                }
            }
            return found;
        }

        int allWays(int what) {
            int many = 0;
            int cells = 0;
            int least = NONE;
            int most = NONE;
            for (int force = 1; force <= MOST_FORCE; force++) {
                for (int cell = 0; cell < now.cells; cell++) {
                    if (isWay(cell, force)) {
                        many++;
                        cells |= 1 << cell;
                        least = least == NONE ? force : least;
                        most = force;
                    }
                }
            }
            switch (what) {
                case 0: return many;
                case 1: return cells;
                case 2: return least;
                default: return most;
            }
        }

        private boolean isWay(int cell, int force) {
            if (now.isCracked(cell)) {
                return false;
            }
            tryTouch(cell, force);
            int last = felt.lastBeat();
            for (int beat = 0; beat <= last; beat++) {
                if (!felt.agrees(trial, beat)) {
                    return false;
                }
                play.drift(trial, 1);
            }
            return true;
        }

        int bestFeel(int beats) {
            Arrays.fill(tally, 0);
            int all = 0;
            for (int cell = 0; cell < now.cells; cell++) {
                for (int force = 1; force <= MOST_FORCE; force++) {
                    if (isWay(cell, force)) {
                        all++;
                        tryTouch(cell, force);
                        play.drift(trial, beats);
                        tallyTrial();
                    }
                }
            }
            int found = NONE;
            int least = all;
            for (int cell = 0; cell < now.cells; cell++) {
                int crowd = greatestTally(cell);
                if (crowd < least) {
                    least = crowd;
                    found = cell;
                }
            }
            return found;
        }

        private void tallyTrial() {
            for (int cell = 0; cell < trial.cells; cell++) {
                tally[cell * (MOST_SHAKE + 1) + trial.shakes[cell]]++;
            }
        }

        private int greatestTally(int cell) {
            int greatest = 0;
            for (int shake = 0; shake <= MOST_SHAKE; shake++) {
                greatest = Math.max(greatest, tally[cell * (MOST_SHAKE + 1) + shake]);
            }
            return greatest;
        }

        int firstReach(int cell, int other) {
            untouched.copy(now);
            tryTouch(other, MOST_FORCE);
            for (int beat = 0; beat <= TERM; beat++) {
                if (trial.shakes[cell] != untouched.shakes[cell]) {
                    return beat;
                }
                play.drift(trial, 1);
                play.drift(untouched, 1);
            }
            return NONE;
        }

        int calmestCell(int beats) {
            trial.copy(now);
            play.drift(trial, beats);
            return trial.quietestOpen();
        }

        int idleBits() {
            trial.copy(now);
            play.pass(trial, 1);
            int bits = 0;
            for (int i = 0; i < now.courtiers; i++) {
                if (trial.done[i] == now.done[i]) {
                    bits |= 1 << i;
                }
            }
            return bits;
        }

        int risesOf(int cell) {
            trial.copy(now);
            int rises = 0;
            for (int beat = 0; beat < TERM; beat++) {
                int ahead = trial.shakes[cell];
                play.drift(trial, 1);
                if (trial.shakes[cell] > ahead) {
                    rises++;
                }
            }
            return rises;
        }

        int millionths(int cell, int beats, int odds) {
            int all = 0;
            for (int heats = 0; heats < 1 << beats; heats++) {
                int weight = weightOf(heats, beats, odds);
                if (weight > 0 && shakesInHeats(cell, beats, heats)) {
                    all += weight;
                }
            }
            for (int i = beats; i < MOST_ODD_BEATS; i++) {
                all *= TEN;
            }
            return all;
        }

        private static int weightOf(int heats, int beats, int odds) {
            int weight = 1;
            for (int i = 0; i < beats; i++) {
                weight *= (heats & 1 << i) != 0 ? odds : TEN - odds;
            }
            return weight;
        }

        private boolean shakesInHeats(int cell, int beats, int heats) {
            trial.copy(now);
            for (int i = 0; i < beats; i++) {
                play.driftInHeat(trial, (heats & 1 << i) != 0 ? MOST_HEAT : 0);
            }
            return trial.shakes[cell] > 0;
        }

        static boolean isRest(int first, int second, int both, int loses, int gets) {
            return pay(first, second, both, loses, gets) >= pay(1 - first, second, both, loses, gets)
                && pay(second, first, both, loses, gets) >= pay(1 - second, first, both, loses, gets);
        }

        private static int pay(int own, int other, int both, int loses, int gets) {
            if (own == 1) {
                return other == 1 ? both : -loses;
            }
            return other == 1 ? gets : 0;
        }

        int drawYears(int seed, int beats, int what) {
            trial.copy(now);
            drawn = seed;
            int done = 0;
            for (int i = 0; i < beats; i++) {
                drawAct();
                done += play.pass(trial, 1);
            }
            if (what == 0) {
                return done;
            }
            return what == 1 ? Integer.bitCount(trial.shakingBits()) : trial.sumFrom(0, trial.cells);
        }

        private void drawAct() {
            int act = drawBelow(8);
            if (act <= 3) {
                int cell = drawBelow(trial.cells);
                actIfCan(TOUCH, cell, drawBelow(MOST_FORCE) + 1);
            } else if (act == 4) {
                actIfCan(BREATHE, drawBelow(trial.cells), 0);
            } else if (act == 5) {
                actIfCan(TURN, 0, 0);
            } else if (act == 6 && trial.courtiers > 0) {
                int courtier = drawBelow(trial.courtiers);
                actIfCan(CHANGE, courtier, drawBelow(trial.courtiers));
            }
        }

        private void actIfCan(int act, int first, int second) {
            if (trial.canBe(act, first, second)) {
                trial.perform(act, first, second);
            }
        }

        private int drawBelow(int bound) {
            drawn = (drawn * 1103515245L + 12345L) % 2147483648L;
            return bound > 0 ? (int) (drawn / 65536L % bound) : 0;
        }
    }
}

import java.util.NoSuchElementException;

/** The edges of what is seen, shared, rested and drawn: promises 25 to 30, 32, 36 and 38 to 40. */
public final class ViewEdgesTest {
    private static Edges edges;

    private ViewEdgesTest() { }

    public static void main(String[] args) throws Exception {
        edges = new Edges("ViewEdgesTest");
        shares();
        sharesRoundAndRound();
        shareOthers();
        alike();
        even();
        calm();
        loud();
        spread();
        arc();
        hush();
        chanceBeats();
        chanceOdds();
        chanceHeats();
        rests();
        restsOthers();
        yearsOthers();
        yearsByHand();
        yearsDraws();
        edges.end();
    }

    private static ShakingCourt loyal(int... hearts) {
        StringBuilder text = new StringBuilder();
        for (int i = 0; i < hearts.length; i++) {
            text.append("courtier n").append((char) ('a' + i)).append(" plain at 0 loyal ").append(hearts[i]).append(';');
        }
        return edges.court(text.toString());
    }

    private static void share(ShakingCourt x, int much, int... want) {
        for (int i = 0; i < want.length; i++) {
            edges.due("share " + i + " of " + much, x.share(i, much), want[i]);
        }
    }

    private static void shares() {
        edges.says("each the part of it that his loyalty is of all, cut; what is left over by 1 to each, by numbers, round and round");
        ShakingCourt x = loyal(1, 1, 1);
        share(x, 1, 1, 0, 0);
        share(x, 2, 1, 1, 0);
        share(x, 3, 1, 1, 1);
        share(x, 4, 2, 1, 1);
        share(x, 98, 33, 33, 32);
        share(x, 99, 33, 33, 33);
        ShakingCourt y = loyal(9, 0, 1);
        // Of 9 it is 8.1, 0 and 0.9: one is left over, and goes to the first.
        share(y, 9, 9, 0, 0);
        share(y, 10, 9, 0, 1);
        share(y, 11, 10, 0, 1);
        share(y, 19, 18, 0, 1);
        // The left over goes by numbers, to one who is not loyal, too.
        ShakingCourt z = loyal(0, 3, 3, 3);
        share(z, 1, 1, 0, 0, 0);
        share(z, 2, 1, 1, 0, 0);
        share(z, 3, 0, 1, 1, 1);
        share(z, 5, 1, 2, 1, 1);
        share(loyal(9), 99, 99);
        share(loyal(1), 1, 1);
        share(loyal(9, 9, 9, 9, 9, 9), 99, 17, 17, 17, 16, 16, 16);
        share(loyal(9, 9, 9, 9, 9, 9), 5, 1, 1, 1, 1, 1, 0);
        for (int much = 1; much <= 99; much += 7) {
            ShakingCourt w = loyal(2, 9, 0, 5, 1, 7);
            int all = 0;
            for (int i = 0; i < 6; i++) {
                all += w.share(i, much);
            }
            edges.due("all of " + much + " is given", all, much);
        }
    }

    private static void sharesRoundAndRound() {
        edges.says("(none loyal: all of it so)");
        ShakingCourt x = loyal(0, 0, 0, 0);
        share(x, 1, 1, 0, 0, 0);
        share(x, 4, 1, 1, 1, 1);
        share(x, 5, 2, 1, 1, 1);
        share(x, 7, 2, 2, 2, 1);
        share(x, 8, 2, 2, 2, 2);
        share(x, 99, 25, 25, 25, 24);
        share(loyal(0), 99, 99);
        share(loyal(0, 1), 99, 0, 99);
    }

    private static void shareOthers() {
        edges.says("SHARES of so much (1 to 99) among the COURTIERS");
        ShakingCourt x = loyal(3, 4);
        for (int much : new int[] {0, -1, 100, 101, Integer.MIN_VALUE, Integer.MAX_VALUE}) {
            edges.due("much " + much, x.share(0, much), -1);
        }
        share(x, 1, 1, 0);
        share(x, 99, 43, 56);

        edges.says("SHARES: what a COURTIER gets of so much; NONE: others.");
        edges.due("one beyond", x.share(2, 1), -1);
        for (int man : Edges.FAR_OFF) {
            edges.due("courtier " + man, x.share(man, 1), -1);
        }
        edges.due("nobody", new ShakingCourt().share(0, 1), -1);
        // By numbers and loyalty, wherever they stand and whatever they did.
        x.change(0, 1);
        x.beat();
        share(x, 99, 43, 56);
    }

    private static void alike() {
        edges.says("ALIKE: pairs of CELLS that shake alike (0 and cracked ones, too).");
        for (int cells = 3; cells <= 12; cells++) {
            ShakingCourt x = edges.court("cells " + cells + ";");
            edges.due("all still", x.alike(), cells * (cells - 1) / 2);
            for (int cell = 0; cell < cells; cell++) {
                x.touch(cell, cell + 1);
            }
            edges.due("no two", x.alike(), 0);
            x.touch(0, cells - 1);
            edges.due("the first and the last", x.alike(), 1);
        }
        ShakingCourt y = edges.court("cells 4;");
        y.touch(0, 1);
        y.touch(1, 2);
        edges.due("two still ones", y.alike(), 1);
        y.fork(2);
        edges.due("a still one and a cracked one", y.alike(), 1);
        y.fork(3);
        edges.due("two cracked ones", y.alike(), 1);
        y.fork(0);
        edges.due("three cracked ones", y.alike(), 3);
        y.fork(1);
        edges.due("all are cracked", y.alike(), 6);
    }

    private static void even() {
        edges.says("EVEN: whether TURN would change no shake, no crack.");
        for (int cells = 3; cells <= 12; cells++) {
            edges.due("all still", edges.court("cells " + cells + ";").even(), true);
            for (int cell = 0; cell < cells; cell++) {
                ShakingCourt x = edges.court("cells " + cells + ";");
                boolean middle = 2 * cell + 1 == cells;
                x.touch(cell, 1);
                edges.due("one shakes", x.even(), middle);
                x.touch(cells - 1 - cell, middle ? 5 : 1);
                edges.due("the other one, too", x.even(), true);
                x.touch(cell, 1);
                edges.due("by 1 more", x.even(), middle);
                ShakingCourt y = edges.court("cells " + cells + ";");
                y.fork(cell);
                edges.due("one is cracked", y.even(), middle);
                y.fork(cells - 1 - cell);
                edges.due("the other one is, too", y.even(), true);
            }
        }
        ShakingCourt z = edges.court("cells 4;");
        z.touch(0, 1);
        String seen = Edges.state(z);
        z.even();
        edges.due("it would, but does not", Edges.state(z), seen);
    }

    private static void calm() {
        edges.says("CALM: the most CELLS one behind another in the ring that do not shake.");
        for (int cells = 3; cells <= 12; cells++) {
            edges.due("all still", edges.court("cells " + cells + ";").calm(), cells);
            edges.due("all shake", edges.shaking("cells " + cells + ";", 1).calm(), 0);
            for (int cell = 0; cell < cells; cell++) {
                ShakingCourt x = edges.court("cells " + cells + ";");
                x.touch(cell, 1);
                edges.due("one shakes, round the ring", x.calm(), cells - 1);
                ShakingCourt y = edges.shaking("cells " + cells + ";", 1);
                y.breathe(cell);
                edges.due("one is still", y.calm(), 1);
                y.fork((cell + 1) % cells);
                edges.due("and one is cracked behind it", y.calm(), 2);
            }
            ShakingCourt z = edges.court("cells " + cells + ";");
            for (int cell = 0; cell < cells; cell++) {
                z.fork(cell);
            }
            edges.due("all are cracked", z.calm(), cells);
        }
        ShakingCourt x = edges.court("cells 7;");
        x.touch(2, 1);
        x.touch(5, 1);
        edges.due("6, 0, 1 over 3, 4", x.calm(), 3);
        x.touch(0, 1);
        edges.due("3, 4", x.calm(), 2);
    }

    private static void loud() {
        edges.says("LOUD: the CELL that shakes the most; of equal ones the first.");
        ShakingCourt x = edges.court("cells 12;");
        x.touch(11, 1);
        edges.due("by 1", x.loud(), 11);
        x.touch(5, 1);
        edges.due("of equal ones", x.loud(), 5);
        x.touch(11, 1);
        edges.due("by 1 more", x.loud(), 11);
        Edges.raise(x, 0, 99);
        edges.due("by 99", x.loud(), 0);

        edges.says("LOUD; NONE: none shakes.");
        edges.due("a new object", new ShakingCourt().loud(), -1);
        x.fork(0);
        x.fork(11);
        edges.due("one shakes", x.loud(), 5);
        x.fork(5);
        edges.due("none shakes", x.loud(), -1);
    }

    private static void spread() {
        edges.says("SPREAD: the most less the least.");
        edges.due("all alike", edges.shaking("cells 3;", 9).spread(), 0);
        ShakingCourt x = edges.shaking("cells 3;", 9);
        x.touch(1, 1);
        edges.due("by 1", x.spread(), 1);
        Edges.raise(x, 1, 90);
        edges.due("99 less 9", x.spread(), 90);
        x.breathe(2);
        edges.due("99 less 6", x.spread(), 93);
        x.breathe(2);
        x.breathe(2);
        edges.due("99 less 0", x.spread(), 99);

        edges.says("SPREAD, of CELLS that are not cracked (0: all are).");
        x.fork(2);
        edges.due("the still one is cracked", x.spread(), 90);
        x.fork(1);
        edges.due("one is left", x.spread(), 0);
        x.fork(0);
        edges.due("all are cracked", x.spread(), 0);
        edges.due("all still", new ShakingCourt().spread(), 0);
    }

    private static void arc() {
        edges.says("ARC: what so many (1 to 12, no more than there are) CELLS one behind another from one on shake together.");
        for (int cells = 3; cells <= 12; cells++) {
            ShakingCourt x = edges.court("cells " + cells + ";");
            for (int cell = 0; cell < cells; cell++) {
                x.touch(cell, cell + 1);
            }
            int all = cells * (cells + 1) / 2;
            edges.due("none", x.arc(0, 0), -1);
            edges.due("one, the first", x.arc(0, 1), 1);
            edges.due("one, the last", x.arc(cells - 1, 1), cells);
            edges.due("the last and the first", x.arc(cells - 1, 2), cells + 1);
            edges.due("all but one", x.arc(1, cells - 1), all - 1);
            edges.due("all", x.arc(0, cells), all);
            edges.due("all, from the last one", x.arc(cells - 1, cells), all);
            edges.due("one more than there are", x.arc(0, cells + 1), -1);
            edges.due("13", x.arc(0, 13), -1);
            edges.due("12", x.arc(0, 12), cells == 12 ? all : -1);
            x.fork(0);
            edges.due("a cracked one has nothing", x.arc(0, cells), all - 1);
            edges.due("from a cracked one", x.arc(0, 1), 0);
        }

        edges.says("ARC; NONE: others.");
        ShakingCourt y = edges.shaking("cells 4;", 99);
        edges.due("the most", y.arc(3, 4), 396);
        edges.due("beyond", y.arc(4, 1), -1);
        for (int cell : Edges.FAR_OFF) {
            edges.due("cell " + cell, y.arc(cell, 1), -1);
        }
        for (int many : new int[] {-1, 5, 32, Integer.MIN_VALUE, Integer.MAX_VALUE}) {
            edges.due("many " + many, y.arc(0, many), -1);
        }
    }

    private static void hush() {
        edges.says("HUSH: the fewest breaths now till none shakes.");
        int[] shakes = {0, 1, 2, 3, 4, 5, 6, 7, 97, 98, 99};
        int[] breaths = {0, 1, 1, 1, 2, 2, 2, 3, 33, 33, 33};
        for (int i = 0; i < shakes.length; i++) {
            ShakingCourt x = edges.court("cells 3;");
            Edges.raise(x, 2, shakes[i]);
            edges.due("one by " + shakes[i], x.hush(), breaths[i]);
            edges.due("three by " + shakes[i], edges.shaking("cells 3;", shakes[i]).hush(), 3 * breaths[i]);
        }
        ShakingCourt y = edges.shaking("cells 12;", 99);
        edges.due("the most", y.hush(), 396);
        y.fork(4);
        edges.due("a cracked one needs none", y.hush(), 363);
        ShakingCourt z = edges.shaking("cells 4;", 7);
        int many = z.hush();
        for (int i = 0; i < many; i++) {
            edges.due("not yet", z.count(6) != 0, true);
            z.breathe(i % 4);
        }
        edges.due("none shakes", z.count(6), 0);
        edges.due("nothing is left to do", z.hush(), 0);
    }

    // A hot beat leaves nothing, a cold one all.
    private static ShakingCourt quiver() {
        return edges.shaking("cells 3;heat 5;fades warm * 99;", 9);
    }

    private static void chanceBeats() {
        edges.says("CHANCE: each of so many (1 to 6) BEATS has a heat of 5 by odds of ten, else of 0, in place of what is told");
        ShakingCourt x = quiver();
        edges.due("0", x.chance(0, 0, 1), -1);
        edges.due("1", x.chance(0, 1, 1), 900000);
        edges.due("2", x.chance(0, 2, 1), 810000);
        edges.due("3", x.chance(0, 3, 1), 729000);
        edges.due("4", x.chance(0, 4, 1), 656100);
        edges.due("5", x.chance(0, 5, 1), 590490);
        edges.due("6", x.chance(0, 6, 1), 531441);
        edges.due("7", x.chance(0, 7, 1), -1);
        edges.due("far below", x.chance(0, Integer.MIN_VALUE, 1), -1);
        edges.due("far beyond", x.chance(0, Integer.MAX_VALUE, 1), -1);
        edges.due("33", x.chance(0, 33, 1), -1);
    }

    private static void chanceOdds() {
        edges.says("that a CELL shakes at all behind these, in millionths, cut.");
        ShakingCourt x = edges.court("cells 3;fades warm;");
        x.touch(0, 12);
        // 6 comes to cell 1: 1 is left of it even by a heat of 5; by 10 nothing would be.
        edges.due("by 1", x.chance(1, 1, 10), 1000000);
        ShakingCourt y = edges.court("cells 3;fades warm;");
        y.touch(0, 11);
        edges.due("by 0", y.chance(1, 1, 10), 0);
        edges.due("by 0 or 5", y.chance(1, 1, 9), 100000);
        edges.due("one that is still", y.chance(0, 1, 0), 0);

        edges.says("CHANCE, by odds (0 to 10); NONE: others, it is cracked.");
        ShakingCourt z = quiver();
        for (int odds = 0; odds <= 10; odds++) {
            edges.due("odds " + odds, z.chance(2, 1, odds), 100000 * (10 - odds));
        }
        edges.due("never hot", z.chance(2, 6, 0), 1000000);
        edges.due("all but once", z.chance(2, 6, 9), 1);
        edges.due("always hot", z.chance(2, 6, 10), 0);
        for (int odds : new int[] {-1, 11, 12, Integer.MIN_VALUE, Integer.MAX_VALUE}) {
            edges.due("odds " + odds, z.chance(2, 1, odds), -1);
        }
        edges.due("beyond", z.chance(3, 1, 1), -1);
        for (int cell : Edges.FAR_OFF) {
            edges.due("cell " + cell, z.chance(cell, 1, 1), -1);
        }
        z.fork(2);
        edges.due("cracked", z.chance(2, 1, 1), -1);
        edges.due("beside it", z.chance(1, 1, 1), 900000);
    }

    private static void chanceHeats() {
        edges.says("has a heat of 5 by odds of ten, else of 0, in place of what is told");
        // Other heats than 5 and 0 would leave nothing.
        ShakingCourt x = edges.shaking("cells 3;heat 3 1;fades 99 * not (warm = 5 or warm = 0);", 9);
        edges.due("5 or 0", x.chance(0, 6, 3), 1000000);
        edges.due("told, it is neither", x.later(0, 1), 0);
        ShakingCourt y = edges.shaking("cells 3;heat 3;fades 99 * (warm = 5);", 9);
        edges.due("5 by 3 of ten", y.chance(0, 1, 3), 700000);
        ShakingCourt z = edges.shaking("cells 3;heat 3;fades 99 * (warm = 0);", 9);
        edges.due("0 by 7 of ten", z.chance(0, 1, 3), 300000);
        // The beats have their numbers: only the third from now counts.
        ShakingCourt w = edges.shaking("cells 3;heat 3;fades 99 * (warm = 5 and time = 3);", 9);
        w.beat();
        edges.due("ahead of it", w.chance(0, 2, 4), 1000000);
        edges.due("with it", w.chance(0, 3, 4), 600000);
        edges.due("behind it", w.chance(0, 6, 4), 600000);
    }

    private static int restOf(int both, int loses, int gets, int what) {
        try {
            return new ShakingCourt().rests(both, loses, gets, what);
        } catch (NoSuchElementException e) {
            return -100;
        }
    }

    // Leaving it both: who touches alone loses, or nothing: a rest always. Touching both: a rest if that is no less than
    // what the other one gets. One alone: he must lose nothing, and the other one get no less than both do.
    private static void rests() {
        edges.says("both touch: each gets so much (0 to 9); one touches: he loses so much (0 to 9), the other one gets so much (0 to 9);"
            + " both leave it: nothing: RESTS: by which neither would get more by the other.");
        for (int both = 0; both <= 9; both++) {
            for (int loses = 0; loses <= 9; loses++) {
                for (int gets = 0; gets <= 9; gets++) {
                    int[] want = {-100, -100, -100, -100, -100};
                    int many = 0;
                    want[many++] = 0;
                    if (loses == 0 && gets >= both) {
                        want[many++] = 1;
                        want[many++] = 2;
                    }
                    if (both >= gets) {
                        want[many++] = 3;
                    }
                    String of = "rests of " + both + " " + loses + " " + gets;
                    edges.due(of, restOf(both, loses, gets, -1), many);
                    for (int i = 0; i < 5; i++) {
                        edges.due(of + ", " + i, restOf(both, loses, gets, i), want[i]);
                    }
                }
            }
        }
    }

    private static void restsOthers() {
        edges.says("what NONE: how many; i: the i-th as 2 * the first one's choice + the other one's (1 touches; the least first)."
            + " NoSuchElementException: others, none such.");
        for (int wrong : new int[] {-1, 10, 11, Integer.MIN_VALUE, Integer.MAX_VALUE}) {
            for (int what : new int[] {-1, 0}) {
                edges.due("both " + wrong, restOf(wrong, 0, 0, what), -100);
                edges.due("loses " + wrong, restOf(0, wrong, 0, what), -100);
                edges.due("gets " + wrong, restOf(0, 0, wrong, what), -100);
            }
        }
        for (int what : new int[] {-2, -3, 4, 5, Integer.MIN_VALUE, Integer.MAX_VALUE}) {
            edges.due("what " + what, restOf(0, 0, 0, what), -100);
        }
        edges.due("the last", restOf(0, 0, 0, 3), 3);
        edges.due("one beyond it", restOf(0, 1, 1, 1), -100);
        edges.due("at 9", restOf(9, 9, 9, -1), 2);
    }

    private static void yearsOthers() {
        edges.says("YEARS by a SEED (0 to 9999), what 0: DONE, 1: how many, 2: shakes; NONE: others.");
        ShakingCourt x = edges.court("courtier a plain at 0 loyal 0;");
        int[] wrongs = {-1, 100000, Integer.MIN_VALUE, Integer.MAX_VALUE};
        for (int what = 0; what < 3; what++) {
            edges.due("seed 0", x.years(0, 1, what) >= 0, true);
            edges.due("seed 9999", x.years(9999, 1, what) >= 0, true);
            edges.due("seed 10000", x.years(10000, 1, what), -1);
            edges.due("99 beats", x.years(0, 99, what) >= 0, true);
            edges.due("100 beats", x.years(0, 100, what), -1);
            edges.due("0 beats", x.years(0, 0, what), -1);
            for (int wrong : wrongs) {
                edges.due("seed " + wrong, x.years(wrong, 1, what), -1);
                edges.due("beats " + wrong, x.years(0, wrong, what), -1);
            }
        }
        edges.due("what 3", x.years(0, 1, 3), -1);
        for (int wrong : wrongs) {
            edges.due("what " + wrong, x.years(0, 1, wrong), -1);
        }
    }

    private static int draw(long[] g, int below) {
        g[0] = (g[0] * 1103515245L + 12345L) % 2147483648L;
        return (int) (g[0] / 65536L % below);
    }

    private static ShakingCourt yearly(int men, boolean cracked) {
        ShakingCourt x = edges.court("cells 5;heat 1 0 2;fades warm;reads wave + heart;"
            + (men > 0 ? "courtier a plain at 1 loyal 1;" : "") + (men > 1 ? "courtier b spoon at 4 loyal 0;" : "")
            + (men > 2 ? "courtier c maid at 2 loyal 0;" : ""));
        x.touch(0, 20);
        x.touch(3, 9);
        x.beat();
        if (cracked) {
            x.fork(1);
            x.fork(4);
        }
        return x;
    }

    private static int byHand(ShakingCourt x, int men, long[] g) {
        int cells = 5;
        int act = draw(g, 8);
        if (act <= 3) {
            int cell = draw(g, cells);
            x.touch(cell, draw(g, 20) + 1);
        } else if (act == 4) {
            x.breathe(draw(g, cells));
        } else if (act == 5) {
            x.turn();
        } else if (act == 6 && men > 0) {
            int one = draw(g, men);
            x.change(one, draw(g, men));
        }
        return x.beat();
    }

    private static void yearsByHand() {
        edges.says("YEARS by a SEED of so many BEATS (1 to 99), from now on (all is as ahead then)");
        int[] seeds = {0, 1, 2, 3, 5, 8, 77, 1234, 9998, 9999};
        int[] spans = {1, 2, 7, 30, 98, 99};
        for (int kind = 0; kind < 8; kind++) {
            for (int seed : seeds) {
                ShakingCourt asked = yearly(kind / 2, kind % 2 == 1);
                ShakingCourt played = yearly(kind / 2, kind % 2 == 1);
                String ahead = Edges.state(asked);
                long[] g = {seed};
                int beats = 0;
                int done = 0;
                for (int span : spans) {
                    for (; beats < span; beats++) {
                        done += byHand(played, kind / 2, g);
                    }
                    String of = "years " + seed + " " + span + " of " + kind + ", ";
                    edges.due(of + "done", asked.years(seed, span, 0), done);
                    edges.due(of + "how many shake", asked.years(seed, span, 1), Integer.bitCount(played.count(6)));
                    edges.due(of + "all shakes", asked.years(seed, span, 2), played.count(4));
                }
                edges.due("all is as ahead", Edges.state(asked), ahead);
            }
        }
    }

    // One beat for each act there is, and what it comes to, by hand alone.
    private static void yearsDraws() {
        edges.says("each: a DRAW below 8: 0 to 3: a DRAW below CELLS, one below 20 and 1: that TOUCH, if it can be,"
            + " 4: a DRAW below CELLS: a breath, 5: TURN, 6, if there are COURTIERS: two DRAWS below these: that CHANGE, if it can be;"
            + " then the BEAT");
        boolean[] met = new boolean[8];
        int left = 8;
        for (int seed = 0; seed <= 9999 && left > 0; seed++) {
            long[] g = {seed};
            int act = draw(g, 8);
            if (!met[act]) {
                met[act] = true;
                left--;
                for (int men = 0; men <= 3; men++) {
                    // The next beat tells whether the right number of draws was made.
                    ShakingCourt asked = yearly(men, false);
                    ShakingCourt played = yearly(men, false);
                    long[] h = {seed};
                    int done = byHand(played, men, h);
                    edges.due("act " + act, asked.years(seed, 1, 0), done);
                    edges.due("act " + act + ", shakes", asked.years(seed, 1, 2), played.count(4));
                    done += byHand(played, men, h);
                    edges.due("behind act " + act, asked.years(seed, 2, 0), done);
                    edges.due("behind act " + act + ", shakes", asked.years(seed, 2, 2), played.count(4));
                }
            }
        }
        edges.due("all acts were met", left, 0);

        edges.says("A DRAW below m: g becomes (g * 1103515245 + 12345) modulo 2147483648 (g is the SEED at first);"
            + " it is g / 65536, cut, modulo m.");
        // Seed 0: 12345 is 0 of 8, a touch. Then 1406932606, which is 21468 * 65536 and more: cell 21468 % 8, 4.
        // Then 654583775: 9988 % 20 + 1 is 9. Cells 3 and 5 then shake by 4 - 1.
        ShakingCourt x = new ShakingCourt();
        edges.due("seed 0, how many", x.years(0, 1, 1), 2);
        edges.due("seed 0, shakes", x.years(0, 1, 2), 6);
    }
}

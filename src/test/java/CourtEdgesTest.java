/** The edges of courts told, of their laws and of their faults: Terms, promise 3. */
public final class CourtEdgesTest {
    private static final String RESERVED = "cells courtier at loyal heat fades reads touch breathe fork turn change beat"
        + " plain spoon child maid not and or";
    private static final int NOWHERE = -1;
    private static Edges edges;

    private CourtEdgesTest() { }

    public static void main(String[] args) throws Exception {
        edges = new Edges("CourtEdgesTest");
        anyNumber();
        cells();
        courtiers();
        kinds();
        placesAndLoyalty();
        heats();
        heatsInNumber();
        onceEach();
        beyondTheLast();
        names();
        logic();
        tests();
        sums();
        depth();
        deepestLaws();
        longestLaws();
        facts();
        whatIsSo();
        wrapping();
        untold();
        places();
        theFirstWrong();
        kindsOfFaults();
        theLeastKind();
        withoutFault();
        fromThenOn();
        namesFromThenOn();
        withFault();
        edges.end();
    }

    private static String man(String name) {
        return "courtier " + name + " plain at 0 loyal 0;";
    }

    private static String men(int many) {
        StringBuilder text = new StringBuilder();
        for (int i = 0; i < many; i++) {
            text.append(man("n" + (char) ('a' + i)));
        }
        return text.toString();
    }

    private static void anyNumber() {
        edges.says("COURT: any number of   cells N ;   courtier NAME KIND at N loyal N ;   heat N N .. ;   fades E ;   reads E ;");
        edges.court("");
        edges.court("cells 3;");
        edges.court("reads 1;fades 1;heat 1;" + man("a") + "cells 3;" + man("b"));
        String[] lines = {"cells 3;", man("a"), "heat 1 2;", "fades 1;", "reads 1;"};
        for (String line : lines) {
            // Without its last sign, and with that sign twice.
            edges.courtFault(line.substring(0, line.length() - 1) + "|", 1);
            edges.courtFault(line + "|;", 1);
            edges.court(line);
        }
        String[] firsts = {"|at 3;", "|loyal 3;", "|a;", "|plain;", "|not 1;", "|wave;", "|beat;", "|touch 0 1;", "|(", "|3"};
        for (String first : firsts) {
            edges.courtFault(first, 1);
        }
        edges.courtFault("cells |;", 1);
        edges.courtFault("courtier |;", 1);
        edges.courtFault("courtier a |;", 1);
        edges.courtFault("courtier a plain |;", 1);
        edges.courtFault("courtier a plain at |;", 1);
        edges.courtFault("courtier a plain at 0 |;", 1);
        edges.courtFault("courtier a plain at 0 loyal |;", 1);
        edges.courtFault("courtier a plain |0 loyal 0;", 1);
        edges.courtFault("courtier a plain at 0 |0;", 1);
        edges.courtFault("courtier a plain at 0 loyal 0 |0;", 1);
        edges.courtFault("courtier a plain at 0 loyal 0 |b;", 1);
    }

    private static void cells() {
        edges.says("cells: 3 to 12 (8), in a ring, from 0 on");
        edges.courtFault("cells |0;", 4);
        edges.courtFault("cells |2;", 4);
        edges.courtFault("cells |13;", 4);
        edges.courtFault("cells |9999;", 4);
        for (int many = 3; many <= 12; many++) {
            ShakingCourt x = edges.court("cells " + many + ";");
            edges.due("cells", x.count(0), many);
            edges.due("the first", x.shake(0), 0);
            edges.due("the last", x.shake(many - 1), 0);
            edges.due("below", x.shake(-1), -1);
            edges.due("beyond", x.shake(many), -1);
            // In a ring: from the first one to the last one, and back.
            x.touch(0, 20);
            edges.due("to the last one", x.later(many - 1, 1), 9);
            x.undo();
            x.touch(many - 1, 20);
            edges.due("to the first one", x.later(0, 1), 9);
        }
        edges.due("untold", edges.court("heat 1;").count(0), 8);
    }

    private static void courtiers() {
        edges.says("courtier: 6 at most, numbered as told");
        for (int many = 0; many <= 6; many++) {
            ShakingCourt x = edges.court(men(many));
            edges.due("courtiers", x.count(1), many);
            edges.due("one beyond", x.courtier(many, 0), -2);
            edges.due("the last", x.courtier(many - 1, 0), many == 0 ? -2 : 0);
        }
        edges.courtFault(men(6) + "|courtier ng plain at 0 loyal 0;", 5);
        edges.courtFault(men(6) + "|courtier", 5);
        ShakingCourt x = edges.court("courtier zz plain at 5 loyal 1;courtier mm maid at 4 loyal 2;courtier aa child at 3 loyal 3;");
        for (int i = 0; i < 3; i++) {
            edges.due("as told " + i, x.courtier(i, 2), i + 1);
        }
        edges.reign(x, "change zz aa;");
    }

    private static void kinds() {
        edges.says("KIND: plain, spoon, child, maid");
        ShakingCourt x = edges.court("courtier a plain at 0 loyal 0;courtier b spoon at 0 loyal 0;"
            + "courtier c child at 0 loyal 0;courtier d maid at 0 loyal 0;");
        for (int i = 0; i < 4; i++) {
            edges.due("kind " + i, x.courtier(i, 0), i);
        }
        for (String word : "beat or not king plai plainx a wave".split(" ")) {
            edges.courtFault("courtier a |" + word + " at 0 loyal 0;", 1);
        }
    }

    private static void placesAndLoyalty() {
        edges.says("at a CELL 0 to 11, loyal 0 to 9");
        for (int i = 0; i <= 11; i++) {
            int loyal = Math.min(9, i);
            ShakingCourt x = edges.court("cells 12;courtier a plain at " + i + " loyal " + loyal + ";");
            edges.due("at", x.courtier(0, 1), i);
            edges.due("loyal", x.courtier(0, 2), loyal);
        }
        edges.courtFault("cells 12;courtier a plain at |12 loyal 0;", 4);
        edges.courtFault("courtier a plain at |13 loyal 0;", 4);
        edges.courtFault("courtier a plain at |9999 loyal 0;", 4);
        edges.courtFault("courtier a plain at 0 loyal |10;", 4);
        edges.courtFault("courtier a plain at 0 loyal |9999;", 4);
        edges.courtFault("courtier a plain at |- 1 loyal 0;", 1);
    }

    private static void heats() {
        edges.says("heat 0 to 5 of one beat behind another");
        for (int heat = 0; heat <= 5; heat++) {
            edges.due("heat", edges.court("heat " + heat + ";").count(3), heat);
        }
        edges.courtFault("heat |6;", 4);
        edges.courtFault("heat 0 5 |6;", 4);
        edges.courtFault("heat |9999;", 4);
        edges.courtFault("heat |-1;", 1);
    }

    private static void heatsInNumber() {
        edges.says("1 to 12, again and again (2)");
        edges.courtFault("heat |;", 1);
        edges.courtFault("heat|", 1);
        edges.courtFault("heat |cells 3;", 1);
        for (int many = 1; many <= 12; many++) {
            StringBuilder text = new StringBuilder("heat");
            for (int i = 0; i < many; i++) {
                text.append(' ').append((i * i + many) % 6);
            }
            ShakingCourt x = edges.court(text + ";");
            for (int beat = 0; beat <= 2 * many + 1; beat++) {
                int at = beat % many;
                edges.due("beat " + beat + " of " + text, x.count(3), (at * at + many) % 6);
                x.beat();
            }
        }
        edges.courtFault("heat 0 1 2 3 4 5 0 1 2 3 4 5 |0;", 5);
        edges.courtFault("heat 0 1 2 3 4 5 0 1 2 3 4 5 |5 5;", 5);
        ShakingCourt untold = edges.court("cells 3;");
        for (int beat = 0; beat < 14; beat++) {
            edges.due("untold", untold.count(3), 2);
            untold.beat();
        }
        // The heat is that of the beat that goes by, in what fades and in what is read alike.
        ShakingCourt x = edges.court("cells 3;heat 3 0;fades warm;reads warm;courtier a plain at 1 loyal 0;");
        x.touch(0, 20);
        edges.due("read in the first beat", x.beat(), 3);
        edges.due("faded in the first beat", x.shake(1), 7);
        edges.due("read in the second beat", x.beat(), 0);
        edges.due("faded in the second beat", x.shake(0), 7);
    }

    private static void onceEach() {
        edges.says("cells, heat, fades, reads: once each.");
        String[] lines = {"cells 5;", "heat 5;", "fades 5;", "reads 5;"};
        for (String line : lines) {
            edges.court(line);
            edges.courtFault(line + "|" + line, 3);
            edges.courtFault(line + "courtier a plain at 0 loyal 0;|" + line, 3);
            edges.courtFault(line + "|" + line.substring(0, 5).trim(), 3);
            for (String other : lines) {
                if (!other.equals(line)) {
                    edges.court(line + other);
                }
            }
        }
        // Once each in one court: another one may tell them again.
        ShakingCourt x = edges.court("cells 5;heat 5;fades 5;reads 5;");
        edges.due("the next one", Check.tellCourt(x, "cells 5;heat 5;fades 5;reads 5;"), 0);
    }

    private static void beyondTheLast() {
        edges.says("(One told beyond the last CELL stands at the last one.)");
        for (int many = 3; many <= 12; many++) {
            for (int at = 0; at <= 11; at++) {
                String cells = "cells " + many + ";";
                String man = "courtier a plain at " + at + " loyal 0;";
                edges.due("told behind", edges.court(cells + man).courtier(0, 1), Math.min(at, many - 1));
                edges.due("told ahead", edges.court(man + cells).courtier(0, 1), Math.min(at, many - 1));
            }
        }
        edges.due("of 8, 7", edges.court("courtier a plain at 7 loyal 0;").courtier(0, 1), 7);
        edges.due("of 8, 8", edges.court("courtier a plain at 8 loyal 0;").courtier(0, 1), 7);
        edges.due("of 8, 11", edges.court("courtier a plain at 11 loyal 0;").courtier(0, 1), 7);
    }

    private static void names() {
        edges.says("A NAME is another WORD than cells, courtier, at, loyal, heat, fades, reads, touch, breathe, fork, turn, change,"
            + " beat, the KINDS, not, and, or");
        for (String word : RESERVED.split(" ")) {
            edges.courtFault("courtier |" + word + " plain at 0 loyal 0;", 1);
            edges.reignFault(man("a"), "change |" + word + " a;", 1);
            edges.reignFault(man("a"), "change a |" + word + ";", 1);
            String shorter = word.substring(1);
            if (!shorter.isEmpty() && !RESERVED.matches(".*\\b" + shorter + "\\b.*")) {
                edges.court(man(shorter));
            }
            if (word.length() < 8) {
                edges.court(man(word + "x"));
            }
        }
        for (String fact : "wave warm time heart".split(" ")) {
            edges.court(man(fact) + "reads " + fact + ";");
        }
        edges.courtFault("courtier |3 plain at 0 loyal 0;", 1);
        edges.courtFault("courtier |( plain at 0 loyal 0;", 1);

        edges.says("no two are alike");
        edges.courtFault(man("a") + "courtier |a plain at 0 loyal 0;", 3);
        edges.courtFault(men(5) + "courtier |na", 3);
        edges.courtFault(men(5) + "courtier |ne", 3);
        edges.court(men(5) + man("nf"));
        edges.court(man("a") + man("aa"));
        edges.court(man("ab") + man("ba"));
    }

    private static void law(String law, int want) {
        edges.due(law, edges.read(law), want);
    }

    private static void logic() {
        edges.says("E: TEST { and TEST or or TEST }, from the left");
        for (int a = 0; a <= 1; a++) {
            for (int b = 0; b <= 1; b++) {
                law(a + " and " + b, a & b);
                law(a + " or " + b, a | b);
                for (int c = 0; c <= 1; c++) {
                    law(a + " or " + b + " and " + c, (a | b) & c);
                    law(a + " and " + b + " or " + c, a & b | c);
                }
            }
        }
        edges.courtFault("reads |and 1;", 1);
        edges.courtFault("reads 1 and |;", 1);
        edges.courtFault("reads 1 or |or 1;", 1);
        edges.courtFault("reads 1 or 1 |1;", 1);
    }

    private static void tests() {
        edges.says("TEST: SUM, or SUM < SUM, or SUM = SUM");
        law("2 < 1", 0);
        law("2 < 2", 0);
        law("2 < 3", 1);
        law("2 = 1", 0);
        law("2 = 2", 1);
        law("2 = 3", 0);
        law("1 + 1 < 1 + 2", 1);
        law("2 < 3 and 3 < 2", 0);
        law("0 - 1 < 0", 1);
        edges.courtFault("reads 1 < 2 |< 3;", 1);
        edges.courtFault("reads 1 < 2 |= 3;", 1);
        edges.courtFault("reads 1 = 2 |= 3;", 1);
        edges.courtFault("reads 1 = 2 |< 3;", 1);
        edges.court("reads 1 < 2 and 2 < 3;");
        edges.court("reads (1 < 2) < 3;");
        edges.courtFault("reads |< 3;", 1);
        edges.courtFault("reads 3 = |;", 1);
    }

    private static void sums() {
        edges.says("SUM: PRODUCT { + or - PRODUCT }; PRODUCT: PART { * PART }; PART: a NUMBER, a fact, not PART, ( E )");
        law("9 - 4 - 3", 2);
        law("9 - 4 + 3", 8);
        law("2 + 3 * 4", 14);
        law("2 * 3 + 4", 10);
        law("(2 + 3) * 4", 20);
        law("9 - (4 - 3)", 8);
        law("2 * 2 * 2 * 2", 16);
        law("not 0 * 5", 5);
        law("not (0 * 5)", 1);
        law("not 0 + 1", 2);
        law("not 1 < 1", 1);
        law("(1 or 0) + 1", 2);
        edges.courtFault("reads |+ 1;", 1);
        edges.courtFault("reads |- 1;", 1);
        edges.courtFault("reads |* 1;", 1);
        edges.courtFault("reads 1 + |;", 1);
        edges.courtFault("reads 1 * |;", 1);
        edges.courtFault("reads not |;", 1);
        edges.courtFault("reads (|);", 1);
        edges.courtFault("reads (1|;", 1);
        edges.courtFault("reads 1|);", 1);
        edges.courtFault("reads 1 |not 1;", 1);
        edges.courtFault("reads 1 |(1);", 1);
        edges.courtFault("reads |courtier;", 1);
        edges.courtFault("reads |a;", 1);
    }

    // Every way to lie within so many of not and ( ).
    private static void depth() {
        edges.says("no PART lies within 5 of not and ( )");
        for (int deep = 0; deep <= 6; deep++) {
            for (int ways = 0; ways < 1 << deep; ways++) {
                StringBuilder open = new StringBuilder("reads ");
                StringBuilder close = new StringBuilder();
                int wrongAt = NOWHERE;
                for (int i = 0; i < deep; i++) {
                    if (i == 5) {
                        wrongAt = open.length();
                    }
                    boolean isNot = (ways & 1 << i) != 0;
                    open.append(isNot ? "not " : "(");
                    close.append(isNot ? "" : ")");
                }
                wrongAt = deep == 5 ? open.length() : wrongAt;
                String text = open + "7" + close + ";";
                edges.due(text, Check.tellCourt(new ShakingCourt(), text), wrongAt == NOWHERE ? 0 : 5 + 16 * wrongAt);
            }
        }
        edges.courtFault("reads (((((|heart", 5);
        edges.courtFault("reads (((((|wave", 5);
        edges.courtFault("reads ((((1)) + (((|1", 5);
        edges.court("reads ((((1)) + ((1)))) * ((((1))));");
        edges.court("reads not not not not 1 + not not not not 1;");
        edges.court("fades ((((1))));");
        edges.courtFault("fades (((((|1)))));", 5);
    }

    // A sign of each rank is half done, on every level, when the innermost PART comes.
    private static String deepest(int levels, int innermost) {
        String law = String.valueOf(innermost);
        for (int i = 0; i < levels; i++) {
            law = "0 or 0 < 0 + 1 * " + (i == 0 ? law : "(" + law + ")");
        }
        return law;
    }

    private static void deepestLaws() {
        edges.says("no PART lies within 5 of not and ( )");
        for (int levels = 1; levels <= 5; levels++) {
            law(deepest(levels, 7), 1);
            law(deepest(levels, 0), 0);
        }
        String beyond = "reads " + deepest(6, 7);
        edges.courtFault(beyond.replace("(0 or 0 < 0 + 1 * 7", "(|0 or 0 < 0 + 1 * 7"), 5);
    }

    private static void longestLaws() {
        edges.says("The TAPE has at most 1,000 signs");
        String man = "courtier a plain at 0 loyal 0;";
        // As many signs as there is room for, each a token: 1 + 1 - 1 + 1 .. comes to 2 or 1.
        int room = 1000 - man.length() - "fades 1;reads 1;".length();
        String steps = "+1-1".repeat(room / 4);
        for (String text : new String[] {man + "reads 1" + steps + ";fades 1;", man + "fades 1;reads 1" + steps + ";"}) {
            ShakingCourt x = edges.court(text);
            // Told again and again, it is the same.
            for (int i = 0; i < 4; i++) {
                edges.due("told again", Check.tellCourt(x, text), 0);
                edges.due("reads", x.beat(), 1);
                x.touch(1, 20);
                edges.due("fades", x.later(0, 1), 9);
            }
            String other = man + "fades 1" + steps + "+1;reads 3;";
            edges.due("the other law is the long one", Check.tellCourt(x, other), 0);
            edges.due("reads 3", x.beat(), 3);
            x.touch(1, 20);
            edges.due("fades 2", x.later(0, 1), 8);
        }
    }

    private static void facts() {
        edges.says("Facts: wave (of fades what comes to a CELL; of reads how it shakes), warm (the beat's heat), time (the beat's number).");
        ShakingCourt x = edges.court("cells 3;fades wave - 4;reads wave;courtier a plain at 1 loyal 9;");
        x.touch(0, 19);
        // 9 comes to cell 1, of which 5 fades.
        edges.due("as it shakes behind the beat", x.beat(), 4);
        law("warm", 3);
        law("time", 2);
        ShakingCourt y = edges.court("cells 3;fades time * 2;reads time + 1;courtier a plain at 1 loyal 9;");
        y.touch(0, 20);
        edges.due("time 0 is read", y.beat(), 1);
        edges.due("time 0 fades", y.shake(1), 10);
        edges.due("time 1 is read", y.beat(), 2);
        edges.due("time 1 fades", y.shake(0), 8);

        edges.says("Of reads besides: heart (how loyal he is).");
        law("heart", 7);
        edges.courtFault("fades |heart;", 1);
        edges.courtFault("fades 1 + (|heart);", 1);
        edges.courtFault("reads heart;fades |heart;", 1);
        edges.courtFault("fades 1;reads heart + |loyal;", 1);
        ShakingCourt z = edges.court("reads heart;courtier a plain at 0 loyal 0;courtier b plain at 0 loyal 9;");
        edges.due("each his own", z.beat(), 9);
    }

    private static void whatIsSo() {
        edges.says("Of not, and, or, < and = comes 1 or 0; what is not 0 is so");
        law("not 0", 1);
        law("not 1", 0);
        law("not 2", 0);
        law("not (0 - 1)", 0);
        law("not not 7", 1);
        law("2 and 4", 1);
        law("2 and 0", 0);
        law("0 - 2 and 0 - 3", 1);
        law("4 or 8", 1);
        law("0 or 0 - 8", 1);
        law("0 or 0", 0);
        law("(2 < 3) + (3 = 3)", 2);
    }

    private static void wrapping() {
        edges.says("ints wrap");
        // 2147483647 is 9999 * 9999 * 21 + 47903626, the latter 9999 * 4790 + 8416.
        String most = "9999 * 9999 * 21 + 9999 * 4790 + 8416";
        law("0 < " + most, 1);
        law("0 < " + most + " + 1", 0);
        law(most + " + 1 < 0", 1);
        law("0 - (" + most + ") - 1 < 0", 1);
        law("0 - (" + most + ") - 2 = " + most, 1);
        law("2 * (" + most + ") = 0 - 2", 1);
        law("4096 * 4096 * 256", 0);
        law("4096 * 4096 * 256 + 5", 5);
        law("4096 * 4096 * 128 < 0", 1);
        law("4096 * 4096 * 64 < 0", 0);
    }

    private static void untold() {
        edges.says("Without fades: 1; without reads: wave.");
        ShakingCourt x = edges.court("cells 3;courtier a plain at 1 loyal 9;");
        x.touch(0, 4);
        edges.due("read", x.beat(), 1);
        edges.due("faded", x.shake(1), 1);
        ShakingCourt y = edges.court("cells 3;fades 0;courtier a plain at 1 loyal 9;");
        y.touch(0, 4);
        edges.due("told", y.beat(), 2);
        ShakingCourt z = edges.court("cells 3;reads 0;courtier a plain at 1 loyal 9;");
        z.touch(0, 4);
        edges.due("reads told", z.beat(), 0);
        edges.due("fades not", z.shake(1), 1);
    }

    private static void places() {
        edges.says("FAULTS, kind + 16 * the place (from 0) of a token, the end being one at the text's length");
        edges.courtFault("|x", 1);
        edges.courtFault(" |x", 1);
        edges.courtFault("\n\n|x", 1);
        edges.courtFault("cells|", 1);
        edges.courtFault("cells |", 1);
        edges.courtFault("cells \n |", 1);
        edges.courtFault("cells 3|", 1);
        edges.courtFault("cells 3  |", 1);
        edges.courtFault(" ".repeat(999) + "|x", 1);
        edges.courtFault("cells" + " ".repeat(995) + "|", 1);
        edges.reignFault("", "|x", 1);
        edges.reignFault("", "beat |", 1);
        edges.reignFault("", "beat; turn\n|", 1);
    }

    private static void theFirstWrong() {
        edges.says("of the first token from the left that is wrong the least");
        edges.courtFault("cells |2; cells 3; heat 9;", 4);
        edges.courtFault("cells 3; heat |9; cells 3;", 4);
        edges.courtFault("cells 3; |cells 2;", 3);
        edges.courtFault("courtier |12345 king at 12 loyal 10", 1);
        edges.courtFault("courtier a |king at 12 loyal 10", 1);
        edges.courtFault("courtier a maid at |12 loyal 10", 4);
        edges.courtFault(man("a") + "courtier |a king at 12", 3);
        edges.courtFault(men(6) + "|courtier na king", 5);
        // A token left out: the next one can't stand there, and is wrong by that alone or first.
        edges.courtFault("courtier |plain at 12 loyal 10;", 1);
        edges.courtFault("courtier a |at 12 loyal 10;", 1);
        edges.courtFault("courtier a plain |12 loyal 10;", 1);
        edges.courtFault("courtier a plain at |loyal 10;", 1);
        edges.courtFault("courtier a plain at 0 |10;", 1);
        edges.courtFault("courtier a plain at 0 loyal |; cells 2;", 1);
        edges.courtFault("courtier a plain at 0 loyal 0 |cells 2;", 1);
        edges.courtFault("reads (1|; cells 2;", 1);
        edges.courtFault("reads 1 + |; cells 2;", 1);
        edges.courtFault("heat |; cells 2;", 1);
    }

    private static void kindsOfFaults() {
        edges.says("1 it is none, or can't stand there");
        edges.courtFault("cells |#;", 1);
        edges.courtFault("cells |(;", 1);
        edges.courtFault("cells |abcdefghi;", 1);
        edges.courtFault("cells |12345;", 1);

        edges.says("2 a NAME of no COURTIER told");
        edges.reignFault(man("a") + man("b"), "change |c a;", 2);
        edges.reignFault(man("a") + man("b"), "change a |c;", 2);
        edges.reignFault(man("a") + man("b"), "change |aa b;", 2);
        edges.reignFault("", "change |a b;", 2);
        edges.reignFault(man("a"), "change |wave a;", 2);

        edges.says("3 a NAME told already; the second COURTIER of change that is the first one; cells, heat, fades, reads a second time");
        edges.courtFault(man("a") + "courtier |a maid at 1 loyal 1;", 3);
        edges.reignFault(man("a") + man("b"), "change a |a;", 3);
        edges.reignFault(man("a") + man("b"), "change b |b;", 3);
        edges.reignFault(man("a") + man("b"), "change |c c;", 2);
        edges.courtFault("heat 1;|heat 1;", 3);

        edges.says("4 a NUMBER that is not as told");
        edges.courtFault("cells |2;", 4);
        edges.reignFault("", "touch 0 |0;", 4);

        edges.says("5 one too many: the word courtier of a seventh, a thirteenth NUMBER of heat, the first word of a 41st line of a REIGN;"
            + " not, or a PART, within 5 others");
        edges.courtFault(men(6) + "|courtier", 5);
        edges.courtFault("heat 1 1 1 1 1 1 1 1 1 1 1 1 |1", 5);
        edges.courtFault("heat 1 1 1 1 1 1 1 1 1 1 1 1|", 1);
        edges.reignFault("", "turn;".repeat(40) + "|turn", 5);
        edges.courtFault("fades not not not not not |not", 5);
        edges.courtFault("fades not not not not not |7", 5);
        edges.courtFault("fades not not not not not |(", 5);
    }

    private static void theLeastKind() {
        edges.says("that is wrong the least: 1");
        edges.courtFault("heat 1 1 1 1 1 1 1 1 1 1 1 1 |6;", 4);
        edges.courtFault("heat 1 1 1 1 1 1 1 1 1 1 1 1 |12345;", 1);
        edges.courtFault("heat 1 1 1 1 1 1 1 1 1 1 1 1 |x;", 1);
        edges.reignFault("", "turn;".repeat(40) + "|cells", 1);
        edges.reignFault("", "turn;".repeat(40) + "|1", 1);
        edges.courtFault("fades (((((|heart", 1);
        edges.courtFault("fades (((((|)", 1);
        edges.courtFault("fades (((((|12345", 1);
        edges.courtFault("fades (((((|and", 1);
        edges.courtFault("fades (((((|", 1);
        edges.courtFault(men(6) + "|courtierx", 1);
        // A line's word, told already or one too many, where no line begins.
        edges.courtFault("cells 3 |cells 3;", 1);
        edges.courtFault("heat 3 |heat 3;", 1);
        edges.courtFault("fades 3 |fades 3;", 1);
        edges.courtFault("reads 3 |reads 3;", 1);
        edges.courtFault("cells |cells 3;", 1);
        edges.courtFault("heat |heat 3;", 1);
        edges.courtFault("fades |fades 3;", 1);
        edges.courtFault(men(5) + "courtier nf plain at 0 loyal 0 |courtier", 1);
        edges.reignFault("", "turn;".repeat(39) + "turn |turn;", 1);
        edges.reignFault("", "turn;".repeat(39) + "touch 0 1 |turn;", 1);
        edges.reignFault(man("a"), "change |beat a;", 1);
        edges.reignFault(man("a"), "change a |beat;", 1);
    }

    private static ShakingCourt livedIn() {
        ShakingCourt x = edges.court("cells 5;heat 1 3;fades warm;reads wave + heart;courtier a plain at 4 loyal 1;courtier b maid at 0 loyal 6;");
        edges.reign(x, "touch 1 9;beat;fork 7;turn;");
        x.touch(3, 19);
        x.fork(1);
        x.change(0, 1);
        x.beat();
        x.feel(0, 0, 0);
        x.mark(2, false);
        x.touch(0, 7);
        return x;
    }

    private static void withoutFault() {
        edges.says("Without a FAULT a COURT is the COURT from then on: beat 0, all still, nothing cracked, COURTIERS where told, nothing done,"
            + " no REIGN, nothing FELT, nothing can be undone, no MARK is there.");
        ShakingCourt x = livedIn();
        String text = "cells 6;courtier b spoon at 2 loyal 3;courtier c child at 5 loyal 4;";
        edges.due("told", Check.tellCourt(x, text), 0);
        edges.due("all is new", Edges.seen(x), Edges.seen(edges.court(text)));
        int[] counts = {6, 2, 0, 2, 0, 0, 0, 0, 0, 0, 0, 0};
        for (int what = 0; what < counts.length; what++) {
            edges.due("count " + what, x.count(what), counts[what]);
        }
        edges.due("where told", x.courtier(0, 1), 2);
        edges.due("nothing done", x.courtier(1, 3), 0);
        edges.due("undo", x.undo(), false);
        edges.due("mark", x.mark(2, true), false);
        edges.due("the old name", Check.tellReign(x, "change a b;"), 2 + 16 * 7);
        // A court told once more is new once more, and an empty one, too.
        ShakingCourt y = livedIn();
        edges.due("an empty one", Check.tellCourt(y, ""), 0);
        edges.due("is as at first", Edges.seen(y), Edges.seen(new ShakingCourt()));

        edges.says("A REIGN is the REIGN.");
        ShakingCourt z = livedIn();
        int felt = z.count(9);
        int steps = z.count(10);
        edges.reign(z, "beat;");
        edges.due("lines", z.count(8), 1);
        edges.due("felt stays", z.count(9), felt);
        edges.due("steps stay", z.count(10), steps);
        edges.due("the mark stays", z.mark(2, true), true);
    }

    // Whatever an earlier court told, or was asked for, is gone.
    private static void fromThenOn() {
        edges.says("a COURT is the COURT from then on");
        ShakingCourt x = edges.court("cells 3;heat 5 4 3;fades 0;reads 7;courtier a plain at 1 loyal 0;");
        String[] laws = {"", "fades 3;", "fades warm;", "fades 0;reads 5;", "heat 4;fades warm;reads heart;", ""};
        int[] fades = {1, 3, 2, 0, 4, 1};
        int[] reads = {9, 7, 8, 5, 0, 9};
        for (int i = 0; i < laws.length; i++) {
            edges.due("told " + laws[i], Check.tellCourt(x, "cells 3;" + laws[i] + "courtier a plain at 1 loyal 0;"), 0);
            x.touch(0, 20);
            edges.due("fades, asked for, by " + laws[i], x.later(1, 1), 10 - fades[i]);
            edges.due("reads by " + laws[i], x.beat(), reads[i]);
            edges.due("fades by " + laws[i], x.shake(1), 10 - fades[i]);
        }
        edges.due("heats are told", Check.tellCourt(x, "heat 5 4 3;"), 0);
        edges.due("and then not", Check.tellCourt(x, "cells 3;"), 0);
        for (int beat = 0; beat < 7; beat++) {
            edges.due("heat of beat " + beat, x.count(3), 2);
            x.beat();
        }
    }

    private static void namesFromThenOn() {
        edges.says("2 a NAME of no COURTIER told");
        ShakingCourt x = edges.court(men(6));
        edges.due("of six, none", Check.tellReign(x, "change na ng;"), 2 + 16 * 10);
        edges.due("of six, the last", Check.tellReign(x, "change na nf;"), 0);
        for (int many = 5; many >= 1; many--) {
            edges.due("told again, fewer", Check.tellCourt(x, men(many)), 0);
            String gone = "n" + (char) ('a' + many);
            edges.due("one of the earlier court", Check.tellReign(x, "change na " + gone + ";"), 2 + 16 * 10);
        }

        edges.says("3 a NAME told already");
        for (int many = 1; many <= 6; many++) {
            edges.due("told again", Check.tellCourt(x, men(many)), 0);
            edges.due("by an earlier court it is not", Check.tellCourt(x, men(many)), 0);
            edges.due("a fault", Check.tellCourt(x, men(many) + "#") > 0, true);
            edges.due("nor by one that was wrong", Check.tellCourt(x, men(many)), 0);
        }
    }

    private static void withFault() {
        edges.says("The TAPE is read as a COURT: 0, or its FAULT (all stays then).");
        String fine = "cells 6;heat 4;fades 2;reads 3;courtier b spoon at 2 loyal 3;courtier c child at 5 loyal 4;";
        String seen = Edges.seen(livedIn());
        for (String wrong : new String[] {"x", "cells 2;", "heat", "courtier c", "courtier d king"}) {
            ShakingCourt x = livedIn();
            edges.due(wrong, Check.tellCourt(x, fine + wrong) > 0, true);
            edges.due("all stays by " + wrong, Edges.seen(x), seen);
            edges.due("the mark stays", x.mark(2, true), true);
            edges.due("names stay", Check.tellReign(x, "change a b;"), 0);
        }

        edges.says("The TAPE is read as a REIGN, likewise.");
        for (String wrong : new String[] {"x", "touch 12", "change a a", "beat"}) {
            ShakingCourt x = livedIn();
            edges.due(wrong, Check.tellReign(x, "turn;beat;" + wrong) > 0, true);
            edges.due("all stays by " + wrong, Edges.seen(x), seen);
        }
    }
}

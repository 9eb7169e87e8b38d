import java.util.ArrayList;
import java.util.List;
import java.util.Random;

/** Texts for the tape: packed for feed, and made up at random, right ones and wrong ones. */
final class Texts {
    private static final String[] NAMES = {"ann", "bob", "cid", "dot", "eve", "fay", "wave", "heart", "time"};
    private static final String[] KINDS = {"plain", "spoon", "child", "maid"};
    private static final String[] ODD = {"beat", "at", "12345", "loyal", ";", "(", ")", "<", "=", "not", "and", "99",
        "cells", "abcdefghi", "A", "#", "0", "heat", "courtier", "fades", "reads", "turn", "change", "-", "zz", ",", "2x"};

    private Texts() { }

    static List<long[]> packed(String text) {
        List<long[]> all = new ArrayList<>();
        for (int from = 0; from < text.length(); from += 24) {
            long[] three = new long[3];
            for (int i = 0; i < 24 && from + i < text.length(); i++) {
                three[i / 8] |= (long) text.charAt(from + i) << 56 - i % 8 * 8;
            }
            all.add(three);
        }
        return all;
    }

    static String court(Random r) {
        List<String> lines = new ArrayList<>();
        if (r.nextInt(4) > 0) {
            lines.add("cells " + (3 + r.nextInt(10)) + " ;");
        }
        int men = r.nextInt(r.nextInt(8) == 0 ? 8 : 6);
        int first = r.nextInt(3);
        for (int i = 0; i < men; i++) {
            String name = NAMES[r.nextInt(40) == 0 ? r.nextInt(NAMES.length) : (first + i) % NAMES.length];
            lines.add("courtier " + name + " " + KINDS[r.nextInt(4)] + " at " + r.nextInt(r.nextInt(50) == 0 ? 13 : 12)
                + " loyal " + (r.nextInt(3) == 0 ? 0 : r.nextInt(r.nextInt(50) == 0 ? 11 : 10)) + ";");
        }
        if (r.nextInt(2) == 0) {
            StringBuilder heat = new StringBuilder("heat");
            for (int i = r.nextInt(r.nextInt(10) == 0 ? 13 : 4); i >= 0; i--) {
                heat.append(' ').append(r.nextInt(r.nextInt(40) == 0 ? 7 : 6));
            }
            lines.add(heat + ";");
        }
        if (r.nextInt(3) > 0) {
            lines.add("fades " + law(r, false) + ";");
        }
        if (r.nextInt(3) > 0) {
            lines.add("reads " + law(r, true) + ";");
        }
        java.util.Collections.shuffle(lines, r);
        return spoilt(String.join(r.nextBoolean() ? "\n" : "", lines), r);
    }

    // Most laws are such as leave something shaking, so that what follows is worth asking for.
    private static String law(Random r, boolean reads) {
        switch (r.nextInt(6)) {
            case 0: return reads ? "wave*(1+warm)-time" : "warm<3";
            case 1: return reads ? "wave + heart" : "wave * warm - 3 * wave";
            case 2: return reads ? "not wave or heart=time" : "(wave=7)*5 + time*0";
            case 3: return reads ? "wave*9999*9999*wave+heart" : "0";
            default: return logic(r, reads, 0);
        }
    }

    private static String logic(Random r, boolean reads, int depth) {
        StringBuilder text = new StringBuilder(test(r, reads, depth));
        while (r.nextInt(5) == 0) {
            text.append(r.nextBoolean() ? " and " : " or ").append(test(r, reads, depth));
        }
        return text.toString();
    }

    private static String test(Random r, boolean reads, int depth) {
        String sum = sum(r, reads, depth);
        return r.nextInt(4) > 0 ? sum : sum + (r.nextBoolean() ? "<" : "=") + sum(r, reads, depth);
    }

    private static String sum(Random r, boolean reads, int depth) {
        StringBuilder text = new StringBuilder(product(r, reads, depth));
        while (r.nextInt(3) == 0) {
            text.append(r.nextBoolean() ? "+" : " - ").append(product(r, reads, depth));
        }
        return text.toString();
    }

    private static String product(Random r, boolean reads, int depth) {
        StringBuilder text = new StringBuilder(part(r, reads, depth));
        while (r.nextInt(4) == 0) {
            text.append(" *").append(part(r, reads, depth));
        }
        return text.toString();
    }

    private static String part(Random r, boolean reads, int depth) {
        int dice = r.nextInt(depth > 4 && r.nextInt(8) > 0 ? 7 : 10);
        switch (dice) {
            case 0: case 1: return "wave";
            case 2: return "warm";
            case 3: return "time";
            case 4: return reads || r.nextInt(12) == 0 ? "heart" : "wave";
            case 5: return String.valueOf(r.nextInt(6));
            case 6: return String.valueOf(r.nextInt(10000));
            case 7: return "not " + part(r, reads, depth + 1);
            default: return "(" + logic(r, reads, depth + 1) + ")";
        }
    }

    static String reign(Random r, List<String> names) {
        StringBuilder text = new StringBuilder();
        int lines = r.nextInt(r.nextInt(8) == 0 ? 44 : 14);
        for (int i = 0; i < lines; i++) {
            text.append(line(r, names)).append(r.nextBoolean() ? " ;" : ";\n");
        }
        return spoilt(text.toString(), r);
    }

    private static String line(Random r, List<String> names) {
        int cell = r.nextInt(r.nextInt(60) == 0 ? 14 : r.nextInt(2) == 0 ? 4 : 12);
        switch (r.nextInt(10)) {
            case 0: return "breathe " + cell;
            case 1: return r.nextInt(2) == 0 ? "fork " + cell : "beat";
            case 2: return "turn";
            case 3: return r.nextInt(3) > 0 ? "beat" : "change " + name(r, names) + " " + name(r, names);
            case 4: case 5: return "beat";
            default: return "touch " + cell + " " + (1 + r.nextInt(r.nextInt(50) == 0 ? 22 : 20));
        }
    }

    private static String name(Random r, List<String> names) {
        return names.isEmpty() || r.nextInt(20) == 0 ? NAMES[r.nextInt(NAMES.length)] : names.get(r.nextInt(names.size()));
    }

    private static String spoilt(String text, Random r) {
        if (r.nextInt(3) > 0 || text.isEmpty()) {
            return text;
        }
        int at = r.nextInt(text.length());
        switch (r.nextInt(5)) {
            case 0: return text.substring(0, at);
            case 1: return text.substring(0, at) + ODD[r.nextInt(ODD.length)] + text.substring(at);
            case 2: return text.substring(0, at) + " " + ODD[r.nextInt(ODD.length)] + " " + text.substring(at);
            case 3: return text.substring(0, at) + text.substring(Math.min(text.length(), at + 1 + r.nextInt(6)));
            default: return text.replace(" ", "\n") + "  ";
        }
    }
}

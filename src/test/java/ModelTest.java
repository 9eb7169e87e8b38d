import java.lang.reflect.InvocationTargetException;
import java.lang.reflect.Method;
import java.lang.reflect.Modifier;
import java.util.ArrayList;
import java.util.Arrays;
import java.util.Comparator;
import java.util.HashMap;
import java.util.List;
import java.util.Map;
import java.util.Random;
import java.util.Set;

/** Long runs of calls, wrong ones among them, on the class and on the model: no answer may differ. */
public final class ModelTest {
    private static final int RUNS = 600;
    private static final int CALLS = 512;
    private static final int LAST_CELL = 1000000;
    private static final int LAST_MAN = 1000001;
    private static final int[] CELL = {0, LAST_CELL};
    private static final int[] MAN = {0, LAST_MAN};
    private static final Map<String, int[][]> RANGES = new HashMap<>();

    static {
        for (String name : List.of("shake", "breathe", "fork", "peak", "rises")) {
            RANGES.put(name, new int[][] {CELL});
        }
        for (String name : List.of("guard", "post")) {
            RANGES.put(name, new int[][] {MAN});
        }
        RANGES.put("courtier", new int[][] {MAN, {0, 3}});
        RANGES.put("touch", new int[][] {CELL, {1, 20}});
        RANGES.put("change", new int[][] {MAN, MAN});
        RANGES.put("judged", new int[][] {{0, 2}});
        RANGES.put("later", new int[][] {CELL, {0, 60}});
        RANGES.put("total", new int[][] {MAN, {1, 60}});
        RANGES.put("nudge", new int[][] {CELL, {0, 12}, {1, 40}, {0, 1}});
        RANGES.put("feel", new int[][] {CELL, {0, 12}, {0, 99}});
        RANGES.put("ways", new int[][] {{0, 3}});
        RANGES.put("look", new int[][] {{0, 12}});
        RANGES.put("share", new int[][] {MAN, {1, 99}});
        RANGES.put("reach", new int[][] {CELL, CELL});
        RANGES.put("arc", new int[][] {CELL, {1, 12}});
        RANGES.put("calmest", new int[][] {{0, 60}});
        RANGES.put("chance", new int[][] {CELL, {1, 6}, {0, 10}});
        RANGES.put("rests", new int[][] {{0, 9}, {0, 9}, {0, 9}, {-1, 3}});
        RANGES.put("years", new int[][] {{0, 9999}, {1, 99}, {0, 2}});
        RANGES.put("mark", new int[][] {{0, 3}, null});
        RANGES.put("count", new int[][] {{0, 11}});
    }

    private final Random random;
    private final ShakingCourt court = new ShakingCourt();
    private final Model model = new Model();
    private final List<String> told = new ArrayList<>();
    private int made;
    private int secretCell;
    private int secretForce;

    private ModelTest(long seed) {
        random = new Random(seed);
    }

    public static void main(String[] args) throws Exception {
        List<Method> methods = faceMethods();
        for (int run = 0; run < RUNS; run++) {
            if (!new ModelTest(run).runs(methods)) {
                System.out.println("ModelTest: run " + run + " differs");
                System.exit(1);
            }
        }
        System.out.println("ModelTest: " + RUNS + " runs are as due");
    }

    private static List<Method> faceMethods() {
        List<Method> methods = new ArrayList<>();
        for (Method m : ShakingCourt.class.getDeclaredMethods()) {
            if (Modifier.isPublic(m.getModifiers())) {
                methods.add(m);
            }
        }
        methods.sort(Comparator.comparing(Method::getName));
        return methods;
    }

    private boolean runs(List<Method> methods) throws Exception {
        boolean fine = random.nextInt(4) == 0 || tell(Texts.court(random), "court");
        while (fine && made < CALLS) {
            int dice = random.nextInt(200);
            if (dice < 2) {
                fine = tell(Texts.court(random), "court");
            } else if (dice < 8) {
                fine = tell(Texts.reign(random, model.names()), "reign");
            } else if (dice < 40) {
                fine = call("touch", int.class, int.class, random.nextInt(model.count(0)), 1 + random.nextInt(20));
            } else if (dice < 50) {
                fine = call("beat");
            } else if (dice < 55) {
                fine = feelSecret();
            } else {
                Method m = methods.get(random.nextInt(methods.size()));
                fine = isRare(m.getName()) && random.nextInt(20) > 0 || call(m, anyArguments(m));
            }
        }
        return fine;
    }

    // These would soon leave nothing to ask for.
    private static boolean isRare(String name) {
        return Set.of("fork", "feed", "court", "reign", "feel").contains(name);
    }

    // Feelings that come from one touch leave ways open.
    private boolean feelSecret() throws Exception {
        if (model.count(9) == 0) {
            secretCell = random.nextInt(model.count(0));
            secretForce = 1 + random.nextInt(20);
        }
        int cell = random.nextInt(model.count(0));
        int beats = random.nextInt(13);
        int shake = model.wouldShake(secretCell, secretForce, cell, beats);
        return call("feel", int.class, int.class, int.class, cell, beats, shake);
    }

    private boolean tell(String text, String how) throws Exception {
        boolean fine = true;
        for (long[] three : Texts.packed(text)) {
            fine = fine && call("feed", long.class, long.class, long.class, three[0], three[1], three[2]);
        }
        return fine && call(how);
    }

    private boolean call(String name, Object... typesThenValues) throws Exception {
        int n = typesThenValues.length / 2;
        Class<?>[] types = new Class<?>[n];
        for (int i = 0; i < n; i++) {
            types[i] = (Class<?>) typesThenValues[i];
        }
        return call(ShakingCourt.class.getMethod(name, types), Arrays.copyOfRange(typesThenValues, n, 2 * n));
    }

    private boolean call(Method m, Object[] arguments) throws Exception {
        made++;
        Object got = answer(m, court, arguments);
        Object want = answer(Model.class.getMethod(m.getName(), m.getParameterTypes()), model, arguments);
        told.add(m.getName() + Arrays.toString(arguments) + " " + got);
        if (got.equals(want)) {
            return true;
        }
        System.out.println(String.join("\n", told));
        System.out.println("due is " + want);
        return false;
    }

    private static Object answer(Method m, Object on, Object[] arguments) throws IllegalAccessException {
        try {
            return m.invoke(on, arguments);
        } catch (InvocationTargetException e) {
            return e.getCause().getClass().getName();
        }
    }

    private Object[] anyArguments(Method m) {
        Class<?>[] types = m.getParameterTypes();
        Object[] arguments = new Object[types.length];
        for (int i = 0; i < types.length; i++) {
            if (types[i] == long.class) {
                arguments[i] = random.nextLong();
            } else if (types[i] == boolean.class) {
                arguments[i] = random.nextBoolean();
            } else {
                int[] range = RANGES.get(m.getName())[i];
                arguments[i] = anyInt(range[0], mostOf(range[1]));
            }
        }
        return arguments;
    }

    private int mostOf(int most) {
        return most == LAST_CELL ? model.count(0) - 1 : most == LAST_MAN ? model.count(1) - 1 : most;
    }

    private int anyInt(int least, int most) {
        switch (random.nextInt(40)) {
            case 0: return least - 1;
            case 1: return most + 1;
            case 2: return random.nextInt(5) == 0 ? random.nextInt() : random.nextInt(110) - 5;
            case 3: return least;
            case 4: return most;
            default: return most < least ? least : least + random.nextInt(most - least + 1);
        }
    }
}

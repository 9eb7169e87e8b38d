import java.lang.reflect.Constructor;
import java.lang.reflect.Field;
import java.lang.reflect.Method;
import java.lang.reflect.Modifier;
import java.nio.file.Files;
import java.nio.file.Path;
import java.util.ArrayList;
import java.util.List;
import java.util.TreeSet;
import java.util.regex.Matcher;
import java.util.regex.Pattern;

/** The class has the document's face and no more, and keeps to what LANGUAGE.md lets be seen from outside. */
public final class FaceTest {
    private static final String FACE = "int feed(long,long,long) int court() int reign() int shake(int) "
        + "int courtier(int,int) int touch(int,int) int breathe(int) boolean fork(int) boolean turn() "
        + "boolean change(int,int) int beat() boolean undo() int judged(int) int later(int,int) int still() "
        + "int peak(int) int total(int,int) int nudge(int,int,int,int) int guard(int) int swap() "
        + "boolean feel(int,int,int) int ways(int) int look(int) int share(int,int) int alike() boolean even() "
        + "int calm() int loud() int spread() int reach(int,int) int arc(int,int) int calmest(int) int lazy() "
        + "int post(int) int hush() int rises(int) int chance(int,int,int) int rests(int,int,int,int) "
        + "int years(int,int,int) boolean mark(int,boolean) int count(int)";
    private static final Check CHECK = new Check("FaceTest");

    private FaceTest() { }

    public static void main(String[] args) throws Exception {
        methods();
        members();
        source();
        CHECK.end();
    }

    private static void methods() {
        TreeSet<String> want = new TreeSet<>(List.of(FACE.replaceAll("(int|boolean) (\\w+\\()", "@$1 $2").substring(1).split(" ?@")));
        TreeSet<String> got = new TreeSet<>();
        for (Method m : ShakingCourt.class.getDeclaredMethods()) {
            if (Modifier.isPublic(m.getModifiers())) {
                List<String> types = new ArrayList<>();
                for (Class<?> type : m.getParameterTypes()) {
                    types.add(type.getName());
                }
                got.add(m.getReturnType() + " " + m.getName() + "(" + String.join(",", types) + ")");
            } else {
                CHECK.due("private: " + m, Modifier.isPrivate(m.getModifiers()), true);
            }
        }
        CHECK.due("the face is " + got, got.equals(want), true);
        CHECK.due("final", Modifier.isFinal(ShakingCourt.class.getModifiers()), true);
    }

    private static void members() {
        for (Field f : ShakingCourt.class.getDeclaredFields()) {
            boolean isNone = f.getName().equals("NONE");
            CHECK.due("field " + f, isNone ? Modifier.isPublic(f.getModifiers()) : Modifier.isPrivate(f.getModifiers()), true);
        }
        CHECK.due("NONE", ShakingCourt.NONE, -1);
        Constructor<?>[] constructors = ShakingCourt.class.getDeclaredConstructors();
        CHECK.due("constructors", constructors.length, 1);
        CHECK.due("public", Modifier.isPublic(constructors[0].getModifiers()), true);
        TreeSet<String> names = new TreeSet<>();
        for (Method m : ShakingCourt.class.getDeclaredMethods()) {
            if (Modifier.isPublic(m.getModifiers())) {
                names.add(m.getName());
            }
        }
        Class<?>[] inside = ShakingCourt.class.getDeclaredClasses();
        CHECK.due("some twelve classes", inside.length <= 12, true);
        for (Class<?> c : inside) {
            CHECK.due("static " + c, Modifier.isStatic(c.getModifiers()) && !Modifier.isPublic(c.getModifiers()), true);
            CHECK.due("some twenty fields " + c, c.getDeclaredFields().length <= 20, true);
            for (Method m : c.getDeclaredMethods()) {
                CHECK.due("no name of the face " + m, names.contains(m.getName()), false);
                CHECK.due("seven parameters " + m, m.getParameterCount() <= 7, true);
            }
        }
    }

    private static void source() throws Exception {
        String text = Files.readString(Path.of("src/main/java/ShakingCourt.java"));
        Matcher imports = Pattern.compile("(?m)^import (.*);").matcher(text);
        while (imports.find()) {
            String name = imports.group(1);
            CHECK.due("import " + name, name.equals("java.util.Arrays") || name.equals("java.util.NoSuchElementException"), true);
        }
        String bare = text.replaceAll("(?s)/\\*.*?\\*/", "").replaceAll("//.*", "").replaceAll("\"[^\"\n]*\"", "\"\"");
        for (String sign : List.of("->", "::", "catch", "finally", "synchronized", "assert ", "static {", "package ",
            "hashCode", "toString", "\" +", "+ \"", "Exact")) {
            CHECK.due("no " + sign, bare.contains(sign), false);
        }
        Matcher bodies = Pattern.compile("(?ms)^( {4}| {8})(?! )[^\n;=]*\\) (throws \\w+ )?\\{\n(.*?)^\\1\\}$").matcher(text);
        int found = 0;
        while (bodies.find()) {
            found++;
            CHECK.due("some sixty lines " + bodies.group().lines().findFirst().get(), bodies.group().lines().count() <= 60, true);
        }
        CHECK.due("methods were looked at", found > 100, true);
    }
}

import java.io.IOException;
import java.lang.reflect.Constructor;
import java.lang.reflect.Field;
import java.lang.reflect.Member;
import java.lang.reflect.Method;
import java.lang.reflect.Modifier;
import java.nio.file.Files;
import java.nio.file.Path;
import java.util.ArrayList;
import java.util.Arrays;
import java.util.List;
import java.util.Set;
import java.util.TreeSet;
import java.util.regex.Matcher;
import java.util.regex.Pattern;

/** The public face of the document, and what of LANGUAGE.md can be seen from outside or by words. */
public final class FaceTest {
    private static final String[] FACE = {
        "int feed(int, int, int, int, int)", "int text(int)", "int fault(int)", "int named(int, int)", "int look(int, int)",
        "int place(int, int)", "int sky(int)", "long law(int, int)", "int put(int, int)", "int bring(int, int)",
        "boolean route(int, long)", "int ticks(int)", "int sum(int)", "int run(int)", "int many(int, int, int)",
        "int when(int, int)", "int way(int, int)", "int best(int, int)", "int second(int)", "int gather(int)",
        "int day(int, boolean)", "int strike(int)", "boolean known(int)", "int right(int)", "int tells()",
        "int joined(int, int, int)", "int dodgers(int, int, int, int)", "int tried(int, int, int)",
        "int chance(int, int, int)", "int undo()", "int keep()", "int back()", "int count(int)"};
    private static final String[] BANNED = {"\\bfinally\\b", "\\bsynchronized\\b", "\\bassert\\b", "->", "::", "\\bvar\\b",
        "\\bSystem\\.(?!arraycopy)", "Exact\\(", "\\bThread\\b", "\\bRandom\\b", "\\bObject\\b", "\\bdouble\\b", "\\bfloat\\b",
        "\\bimport (?!java\\.util\\.(Arrays|NoSuchElementException);)", "\\bstatic \\{", "\\bcatch\\b", "\" \\+ \"",
        "\\bpackage\\b"};

    private FaceTest() {
    }

    public static void main(String[] args) throws IOException {
        members();
        source(Files.readString(Path.of("src/main/java/SkyChairs.java")));
        manyWrongCalls();
        Check.end();
    }

    private static void members() {
        Set<String> open = new TreeSet<>();
        List<Member> all = new ArrayList<>(Arrays.asList(SkyChairs.class.getDeclaredMethods()));
        all.addAll(Arrays.asList(SkyChairs.class.getDeclaredFields()));
        all.addAll(Arrays.asList(SkyChairs.class.getDeclaredConstructors()));
        for (Member m : all) {
            if (!Modifier.isPrivate(m.getModifiers()) && !m.isSynthetic()) {
                Check.due("public " + m, Modifier.isPublic(m.getModifiers()), true);
                open.add(shape(m));
            }
        }
        Set<String> want = new TreeSet<>(Arrays.asList(FACE));
        want.add("NONE");
        want.add("new()");
        Check.due("members " + open, open.equals(want), true);
        Check.due("final", Modifier.isFinal(SkyChairs.class.getModifiers()), true);
        for (Class<?> c : SkyChairs.class.getDeclaredClasses()) {
            Check.due("static " + c, Modifier.isStatic(c.getModifiers()), true);
            Check.due("not public " + c, Modifier.isPublic(c.getModifiers()) || Modifier.isProtected(c.getModifiers()), false);
            Check.due("fields of " + c, Arrays.stream(c.getDeclaredFields())
                    .filter(f -> !Modifier.isStatic(f.getModifiers())).count() <= 24, true);
            for (Method m : c.getDeclaredMethods()) {
                Check.due("named like the face: " + m,
                        Arrays.stream(FACE).anyMatch(f -> f.contains(" " + m.getName() + "(")), false);
                Check.due("parameters of " + m, m.getParameterCount() <= 7, true);
            }
        }
        for (Method m : SkyChairs.class.getDeclaredMethods()) {
            boolean face = Arrays.stream(FACE).anyMatch(f -> f.contains(" " + m.getName() + "("));
            Check.due("private and named like the face: " + m, face && Modifier.isPrivate(m.getModifiers()), false);
        }
    }

    private static String shape(Member m) {
        if (m instanceof Constructor<?> c) {
            return c.getParameterCount() == 0 ? "new()" : c.toString();
        }
        if (m instanceof Field f) {
            return f.getName();
        }
        Method method = (Method) m;
        String types = Arrays.toString(method.getParameterTypes());
        return method.getReturnType() + " " + method.getName() + "(" + types.substring(1, types.length() - 1) + ")";
    }

    private static void source(String source) {
        String code = source.replaceAll("(?s)/\\*.*?\\*/", "").replaceAll("//[^\n]*", "");
        for (String banned : BANNED) {
            Matcher m = Pattern.compile(banned).matcher(code);
            Check.due("found " + banned, m.find(), false);
        }
        for (char c : source.toCharArray()) {
            if (c != '\n' && (c < 32 || c > 126)) {
                Check.due("a sign " + (int) c, 1, 0);
            }
        }
        int most = 0;
        int lines = 0;
        for (String line : code.split("\n")) {
            boolean opens = line.matches(" {4,8}[a-z].*\\) ?(throws .*)?\\{");
            lines = opens ? 0 : lines + 1;
            if (line.matches(" {4,8}\\}")) {
                most = Math.max(most, lines);
            }
        }
        Check.due("the longest method has " + most + " lines", most <= 60, true);
    }

    /** Whatever is asked, the machine throws nothing. */
    private static void manyWrongCalls() {
        int[] odd = {Integer.MIN_VALUE, -97, -2, -1, 0, 1, 2, 5, 7, 8, 15, 40, 41, 95, 96, 97, 1 << 30, Integer.MAX_VALUE};
        for (String text : new String[] {"", "place a 1 1;chairs 3;come 0 2;sign s;law sit 1/view;",
            "place a 1 1;place b 1 1;place c 1 1;place d 1 1;place e 1 1 tide 7;chairs 40;carry 40;sign a;sign b;sign c;sign d;"}) {
            for (int start : new int[] {0, 50, 96}) {
                SkyChairs x = Check.told(text);
                x.put(0, 2);
                x.ticks(start);
                for (int a : odd) {
                    for (int b : odd) {
                        calls(x, a, b);
                    }
                }
                Check.due("tick", x.count(5), start);
            }
        }
    }

    private static void calls(SkyChairs x, int a, int b) {
        x.named(a, b);
        x.place(a, b);
        x.law(a, b);
        x.many(a, Math.min(b, 3), 0);
        x.when(Math.min(a, 3), b);
        x.way(Math.min(a, 3), b);
        x.best(Math.min(a, 3), b);
        x.tried(a, b, 1);
        x.tried(a, 0, b);
        x.chance(a, Math.min(b, 5), a);
        x.joined(a, b, a);
        x.joined(0, a, b);
        x.dodgers(a, b, a, b);
        x.dodgers(5, a, b, 1);
        x.route(a, b * 0x100000001L);
        x.second(b);
        x.put(a, b);
        x.bring(a, b);
        x.undo();
        x.fault(a);
        x.sky(a);
        x.sum(a);
        x.gather(a);
        x.day(a, true);
        x.strike(a);
        x.known(a);
        x.right(a);
        x.tells();
        x.count(a);
        x.run(a);
        try {
            x.look(a, b);
        } catch (IndexOutOfBoundsException e) {
            Check.due("by the machine: " + e, e.getClass() == IndexOutOfBoundsException.class, true);
        } catch (java.util.NoSuchElementException e) {
            Check.due("the chair is there", a >= 0 && a < x.count(1), true);
        }
    }
}

import java.io.IOException;
import java.lang.reflect.Constructor;
import java.lang.reflect.Field;
import java.lang.reflect.Member;
import java.lang.reflect.Method;
import java.lang.reflect.Modifier;
import java.nio.file.Files;
import java.nio.file.Path;
import java.util.Arrays;
import java.util.HashSet;
import java.util.List;
import java.util.Set;
import java.util.TreeSet;
import java.util.regex.Matcher;
import java.util.regex.Pattern;

/** The face of the class, and those rules of LANGUAGE.md that the source and the class show. */
public final class RulesTest {
    private static final Due DUE = new Due("RulesTest");
    private static final Set<String> FACE = new TreeSet<>(List.of(
        "int land(int,int,int,int)", "int ofPass(int,int)", "int snow(int,int)", "int give(int,int)",
        "int open(int)", "int soonest(int)", "int holes(int)", "int way(int,int,int,int,int,int)",
        "int last(int)", "int safe(int)", "int hangs(int,int)", "int peace(int,int)",
        "int reading(int,int)", "int back(int)", "int snows(int)", "int heights(int)", "int kinds(int)",
        "int gave(int,int)", "long odds(int,int,int,int)", "int sheet(int,int,int)", "int lose(int)",
        "int put(int,int,int)", "long cell(int,int,int)", "int copy(int,int,int,int,int)", "int tell(int)",
        "int mark(int)", "int as(int,int)", "int trace()", "int fault()", "int many(int)",
        "int UNKNOWN", "int OUTSIDE", "int STATE", "int FULL", "int NONE", "long LOST",
        "CheeseValleys()"));
    private static final String[] BARRED = {
        "\\bthrow\\b", "\\btry\\b", "\\bcatch\\b", "\\bsynchronized\\b", "\\bassert\\b", "\\bimport\\b",
        "\\bpackage\\b", "->", "::", "\\bstatic\\s*\\{", "\\bprotected\\b", "\\bSystem\\.(?!arraycopy)",
    };

    public static void main(String[] args) throws IOException {
        face();
        constants();
        classes();
        String code = withoutComments(Files.readString(Path.of("src/main/java/CheeseValleys.java")));
        for (String barred : BARRED) {
            DUE.is("places with " + barred, count(barred, code), 0);
        }
        DUE.is("methods that are too long", longMethods(code), 0);
        DUE.end();
    }

    private static void face() {
        Set<String> open = new TreeSet<>();
        for (Method method : CheeseValleys.class.getDeclaredMethods()) {
            if (isOpen(method)) {
                open.add(named(method.getReturnType() + " " + method.getName(), method.getParameterTypes()));
            }
        }
        for (Field field : CheeseValleys.class.getDeclaredFields()) {
            if (isOpen(field)) {
                open.add(field.getType() + " " + field.getName());
            }
        }
        for (Constructor<?> constructor : CheeseValleys.class.getDeclaredConstructors()) {
            open.add(named(constructor.getName(), constructor.getParameterTypes()));
        }
        if (!open.equals(FACE)) {
            DUE.is("the face " + open + " in place of " + FACE, 1, 0);
        }
        DUE.is("the class is public and final", CheeseValleys.class.getModifiers(), Modifier.PUBLIC | Modifier.FINAL);
    }

    private static boolean isOpen(Member member) {
        return !Modifier.isPrivate(member.getModifiers()) && !member.isSynthetic();
    }

    private static String named(String name, Class<?>[] parameters) {
        String list = Arrays.toString(parameters).replace(" ", "");
        return name + "(" + list.substring(1, list.length() - 1) + ")";
    }

    private static void constants() {
        DUE.is("UNKNOWN", CheeseValleys.UNKNOWN, -1);
        DUE.is("OUTSIDE", CheeseValleys.OUTSIDE, -2);
        DUE.is("STATE", CheeseValleys.STATE, -3);
        DUE.is("FULL", CheeseValleys.FULL, -4);
        DUE.is("NONE", CheeseValleys.NONE, -9);
        DUE.is("LOST", CheeseValleys.LOST, Long.MIN_VALUE);
    }

    private static void classes() {
        Class<?>[] inside = CheeseValleys.class.getDeclaredClasses();
        DUE.is("more than twelve classes", inside.length > 11 ? 1 : 0, 0);
        checkMembers(CheeseValleys.class);
        for (Class<?> one : inside) {
            boolean isStatic = Modifier.isStatic(one.getModifiers());
            DUE.is(one + " is static and not public", isStatic && !Modifier.isPublic(one.getModifiers()) ? 1 : 0, 1);
            checkMembers(one);
        }
    }

    private static void checkMembers(Class<?> one) {
        Set<String> faceNames = new HashSet<>();
        for (Method method : CheeseValleys.class.getMethods()) {
            faceNames.add(method.getName());
        }
        for (Method method : one.getDeclaredMethods()) {
            boolean isFace = one == CheeseValleys.class && Modifier.isPublic(method.getModifiers());
            DUE.is(method + " bears a public name", !isFace && faceNames.contains(method.getName()) ? 1 : 0, 0);
            DUE.is(method + " has over seven parameters", method.getParameterCount() > 7 ? 1 : 0, 0);
        }
        int fields = 0;
        for (Field field : one.getDeclaredFields()) {
            boolean isStatic = Modifier.isStatic(field.getModifiers());
            fields += isStatic ? 0 : 1;
            DUE.is(field + " is static state", isStatic && !Modifier.isFinal(field.getModifiers()) ? 1 : 0, 0);
        }
        DUE.is(one + " has over twenty fields", fields > 20 ? 1 : 0, 0);
    }

    private static String withoutComments(String source) {
        return source.replaceAll("(?s)/\\*.*?\\*/", "").replaceAll("//[^\n]*", "");
    }

    private static int count(String barred, String code) {
        Matcher matcher = Pattern.compile(barred).matcher(code);
        int count = 0;
        while (matcher.find()) {
            count++;
        }
        return count;
    }

    /** Methods stand in by four or eight blanks, and end with a brace that stands in as far. */
    private static int longMethods(String code) {
        int count = 0;
        Matcher matcher = Pattern.compile("(?ms)^( {4}| {8})[a-zA-Z][^\n;=]*\\) \\{\n(.*?)^\\1\\}").matcher(code);
        while (matcher.find()) {
            count += matcher.group(2).split("\n").length > 60 ? 1 : 0;
        }
        return count;
    }
}

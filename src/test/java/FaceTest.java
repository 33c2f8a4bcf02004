import java.io.IOException;
import java.lang.reflect.Constructor;
import java.lang.reflect.Field;
import java.lang.reflect.Method;
import java.lang.reflect.Modifier;
import java.nio.file.Files;
import java.nio.file.Path;
import java.util.ArrayList;
import java.util.Arrays;
import java.util.List;
import java.util.TreeSet;
import java.util.regex.Matcher;
import java.util.regex.Pattern;

/** The public face, and those rules of LANGUAGE.md that can be seen from outside or from the words. */
public final class FaceTest {
    private static final List<String> FACE = List.of(
        "feed(int)", "hotel()", "fault()", "told(int)", "room(int)", "waiter(int,int)", "thing(int,int)",
        "minute(int)", "route(int,int)", "lay(int,int,int)", "takeOff(int)", "treaty(int,int,boolean)",
        "drift(int)", "undo()", "where(int,int)", "meets(int,int)", "way(int,int,int)", "delays(int)",
        "served(int)", "evened(int,int)", "packed(int,int)", "covered(int,int)", "calm(int,int)",
        "see(int,int,boolean)", "spiller()", "look()", "write(int,int)", "tear()", "judge()", "seed(int)",
        "keep(int)", "goBack(int)");
    private static int wrong;

    public static void main(String[] args) throws IOException {
        constants();
        methods();
        classesInside();
        words();
        System.out.println(wrong == 0 ? "the face is as due" : wrong + " faults of the face");
        if (wrong != 0) {
            System.exit(1);
        }
    }

    private static void due(boolean is, String what) {
        if (!is) {
            wrong++;
            System.out.println("not so: " + what);
        }
    }

    private static void constants() {
        due(TrayLands.NONE == -1, "NONE");
        due(TrayLands.UNKNOWN == -1000000001, "UNKNOWN");
        due(TrayLands.OUTSIDE == -1000000002, "OUTSIDE");
        due(TrayLands.NOT == -1000000003, "NOT");
        due(TrayLands.FULL == -1000000004, "FULL");
        TreeSet<String> open = new TreeSet<>();
        for (Field f : TrayLands.class.getDeclaredFields()) {
            if (!Modifier.isPrivate(f.getModifiers())) {
                open.add(f.getName());
                due(Modifier.isPublic(f.getModifiers()), f + " is public");
            }
            if (Modifier.isStatic(f.getModifiers())) {
                due(Modifier.isFinal(f.getModifiers()), f + " is final");
            }
        }
        due(open.equals(new TreeSet<>(List.of("NONE", "UNKNOWN", "OUTSIDE", "NOT", "FULL"))), "the constants: " + open);
    }

    private static String nameOf(Method m) {
        List<String> kinds = new ArrayList<>();
        Arrays.stream(m.getParameterTypes()).forEach(kind -> kinds.add(kind.getName()));
        return m.getName() + "(" + String.join(",", kinds) + ")";
    }

    private static void methods() {
        due(Modifier.isPublic(TrayLands.class.getModifiers()), "public class");
        due(Modifier.isFinal(TrayLands.class.getModifiers()), "final class");
        Constructor<?>[] made = TrayLands.class.getDeclaredConstructors();
        due(made.length == 1 && made[0].getParameterCount() == 0 && Modifier.isPublic(made[0].getModifiers()),
            "one public constructor");
        TreeSet<String> open = new TreeSet<>();
        for (Method m : TrayLands.class.getDeclaredMethods()) {
            if (Modifier.isPrivate(m.getModifiers())) {
                due(!isOfFace(m), "no private method bears the name of " + m);
            } else {
                open.add(nameOf(m));
                due(Modifier.isPublic(m.getModifiers()) && m.getReturnType() == int.class, m + " is public, an int");
            }
        }
        due(open.equals(new TreeSet<>(FACE)), "the methods: " + open);
    }

    private static boolean isOfFace(Method m) {
        return FACE.stream().anyMatch(face -> face.startsWith(m.getName() + "("));
    }

    private static void classesInside() {
        Class<?>[] inside = TrayLands.class.getDeclaredClasses();
        due(inside.length < 12, "at most twelve classes");
        for (Class<?> c : inside) {
            due(Modifier.isStatic(c.getModifiers()) && Modifier.isPrivate(c.getModifiers()), c + " is private and static");
            due(c.getDeclaredFields().length <= 20, c + " has at most twenty fields");
            for (Method m : c.getDeclaredMethods()) {
                due(!isOfFace(m), "no method inside bears the name of " + m);
                due(m.getParameterCount() <= 7, m + " has at most seven parameters");
            }
        }
    }

    private static void words() throws IOException {
        String code = Files.readString(Path.of("src/main/java/TrayLands.java"));
        String bare = code.replaceAll("(?s)/\\*.*?\\*/", "").replaceAll("//[^\n]*", "");
        Matcher m = Pattern.compile("\\b(throw|try|catch|finally|synchronized|assert|import|package|protected|native|"
            + "instanceof|hashCode|toString|Thread|Random|Object|Exact)\\b|->|::").matcher(bare);
        while (m.find()) {
            due(false, "without " + m.group());
        }
        due(code.chars().allMatch(c -> c == '\n' || c >= 32 && c < 127), "plain letters");
        Matcher body = Pattern.compile("(?m)^( {4}| {8})\\S.*\\) \\{\\n((?:\\1 .*\\n|\\n)*)\\1}").matcher(code);
        int methods = 0;
        while (body.find()) {
            methods++;
            due(body.group(2).lines().count() <= 60, "a short method: " + body.group().lines().findFirst().orElse(""));
        }
        due(methods > FACE.size(), "methods are found");
    }
}

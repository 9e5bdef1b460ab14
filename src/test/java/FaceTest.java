import java.io.IOException;
import java.lang.reflect.Constructor;
import java.lang.reflect.Field;
import java.lang.reflect.Method;
import java.lang.reflect.Modifier;
import java.nio.file.Files;
import java.nio.file.Path;
import java.util.Set;
import java.util.TreeSet;
import java.util.regex.Matcher;
import java.util.regex.Pattern;

/** The public face, and those rules of LANGUAGE.md that can be seen from names and words. */
public final class FaceTest {
    private static final String FACE = "int addMirror(int,int);int setDust(int,int,int);"
        + "int setMagnitude(int,int,int);int clearPeriods();int addPerson();int setHours(int,int,int);"
        + "int setOff(int,int,int);int addCleaning(int,int,int);int dropCleaning(int);"
        + "int bestDay(int,int,int);int bestPair(int,int,int);long pass(int);int type(char);"
        + "int clearText();int runOrders();int failure(int);int undo();int keep(int);int restore(int);"
        + "int mirror(int,int);long lost(int);long lossAhead(int,int);int night(int,int);"
        + "int day(int,int);int hours(int,int);int planned(int,int);int log(int,int);int count(int)";

    /** Words and signs that rules 2, 5, 6, 10 and 13 leave no room for. */
    private static final String[] BANNED = {"\\bthrows?\\b", "\\btry\\b", "\\bcatch\\b",
        "\\bsynchronized\\b", "\\bassert\\b", "->", "::", "\\bimport\\b", "\\bpackage\\b",
        "\\bprotected\\b", "\\bSystem\\.(?!arraycopy)", "\\bstatic\\s*\\{", "\"\\s*\\+", "\\+\\s*\"",
        "Exact\\b", "\\bhashCode\\b", "\\btoString\\b"};

    public static void main(String[] args) throws IOException {
        methods();
        constants();
        others();
        nested();
        words();
        Check.end();
    }

    private static String signature(Method method) {
        StringBuilder text = new StringBuilder(method.getReturnType().getName());
        text.append(' ').append(method.getName()).append('(');
        for (int i = 0; i < method.getParameterCount(); i++) {
            text.append(i == 0 ? "" : ",").append(method.getParameterTypes()[i].getName());
        }
        return text.append(')').toString();
    }

    private static void methods() {
        Set<String> due = new TreeSet<>(Set.of(FACE.split(";")));
        Set<String> names = new TreeSet<>();
        Set<String> there = new TreeSet<>();
        for (Method method : MirrorPlanner.class.getDeclaredMethods()) {
            if (Modifier.isPublic(method.getModifiers())) {
                there.add(signature(method));
                names.add(method.getName());
                Check.holds(method + " is not static", !Modifier.isStatic(method.getModifiers()));
            } else {
                Check.holds(method + " is private", Modifier.isPrivate(method.getModifiers()));
            }
        }
        Check.holds("the methods are those of the face: " + there, there.equals(due));
        for (Method method : MirrorPlanner.class.getDeclaredMethods()) {
            if (!Modifier.isPublic(method.getModifiers())) {
                Check.holds(method + " has a name of its own", !names.contains(method.getName()));
            }
        }
        for (Class<?> inside : MirrorPlanner.class.getDeclaredClasses()) {
            for (Method method : inside.getDeclaredMethods()) {
                Check.holds(method + " has a name of its own", !names.contains(method.getName()));
                Check.holds(method + " has at most seven parameters", method.getParameterCount() <= 7);
            }
        }
    }

    private static void constants() {
        Check.due("UNKNOWN", MirrorPlanner.UNKNOWN, -1000001);
        Check.due("BAD_VALUE", MirrorPlanner.BAD_VALUE, -1000002);
        Check.due("REFUSED", MirrorPlanner.REFUSED, -1000003);
        Check.due("FULL", MirrorPlanner.FULL, -1000004);
        Check.due("NONE", MirrorPlanner.NONE, -1000005);
    }

    private static void others() {
        int modifiers = MirrorPlanner.class.getModifiers();
        Check.holds("the class is public and final", Modifier.isPublic(modifiers) && Modifier.isFinal(modifiers));
        int open = 0;
        for (Field field : MirrorPlanner.class.getDeclaredFields()) {
            if (Modifier.isPublic(field.getModifiers())) {
                open++;
            } else {
                Check.holds(field + " is private", Modifier.isPrivate(field.getModifiers()));
            }
        }
        Check.due("public fields", open, 5);
        Constructor<?>[] constructors = MirrorPlanner.class.getDeclaredConstructors();
        Check.due("constructors", constructors.length, 1);
        Check.holds("it is public", Modifier.isPublic(constructors[0].getModifiers()));
    }

    private static void nested() {
        Class<?>[] inside = MirrorPlanner.class.getDeclaredClasses();
        Check.holds("at most some twelve classes", inside.length <= 12);
        for (Class<?> one : inside) {
            Check.holds(one + " is static", Modifier.isStatic(one.getModifiers()));
            Check.holds(one + " is not public", !Modifier.isPublic(one.getModifiers()));
            int fields = 0;
            for (Field field : one.getDeclaredFields()) {
                boolean constant = Modifier.isStatic(field.getModifiers());
                fields += constant ? 0 : 1;
                Check.holds(field + " is final if static", !constant || Modifier.isFinal(field.getModifiers()));
            }
            Check.holds(one + " has at most some twenty fields", fields <= 20);
        }
    }

    private static void words() throws IOException {
        String source = Files.readString(Path.of("src/main/java/MirrorPlanner.java"));
        String code = source.replaceAll("(?s)/\\*.*?\\*/", " ").replaceAll("//[^\n]*", " ");
        for (String banned : BANNED) {
            Matcher found = Pattern.compile(banned).matcher(code);
            Check.holds("no " + banned, !found.find());
        }
    }
}

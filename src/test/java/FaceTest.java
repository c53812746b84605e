import java.io.IOException;
import java.lang.reflect.Constructor;
import java.lang.reflect.Field;
import java.lang.reflect.Method;
import java.lang.reflect.Modifier;
import java.nio.file.Files;
import java.nio.file.Path;
import java.util.Set;
import java.util.TreeSet;
import java.util.regex.Matcher;
import java.util.regex.Pattern;

/** The public face, and those rules of the language that can be seen from the class and its text. */
public final class FaceTest {
    private static final Set<String> METHODS = Set.of(
        "int request(int,int,int,int,int,int,int)", "int deliver(int)", "int drop(int)", "int cut(int,int,boolean)",
        "int timeout(int)", "int resend(int)", "int crash(int)", "int recover(int,int)", "int node(int,int)",
        "int entry(int,int,int)", "int register(int,int)", "int known(int,int)", "int letter(int,int)",
        "int count(int)", "int unlike()", "long digest()");
    private static final Set<String> NAMES = Set.of("request", "deliver", "drop", "cut", "timeout", "resend", "crash",
        "recover", "node", "entry", "register", "known", "letter", "count", "unlike", "digest");
    private static final String[] RULED_OUT = {"throw", "throws", "try", "catch", "finally", "synchronized", "assert",
        "Exception", "Error", "Random", "Thread", "hashCode", "toString", "lambda", "\\w+Exact", "nanoTime",
        "currentTimeMillis", "protected", "MIN_VALUE", "MAX_VALUE"};

    public static void main(String[] args) throws IOException {
        face();
        constants();
        fields(ViewStamps.class);
        methods(ViewStamps.class);
        Class<?>[] inside = ViewStamps.class.getDeclaredClasses();
        Due.dueTrue("at most twelve classes", inside.length < 12);
        for (Class<?> each : inside) {
            Due.dueTrue(each + " is static", Modifier.isStatic(each.getModifiers()));
            Due.dueTrue(each + " is not public", !Modifier.isPublic(each.getModifiers())
                && !Modifier.isProtected(each.getModifiers()));
            fields(each);
            methods(each);
        }
        text();
        Due.end();
    }

    private static void face() {
        Due.dueTrue("public and final", Modifier.isPublic(ViewStamps.class.getModifiers())
            && Modifier.isFinal(ViewStamps.class.getModifiers()));
        Due.dueTrue("no package", ViewStamps.class.getPackageName().isEmpty());
        Constructor<?>[] makers = ViewStamps.class.getDeclaredConstructors();
        Due.due("constructors", makers.length, 1);
        Due.dueTrue("public ViewStamps(int)", makers[0].toString().equals("public ViewStamps(int)"));
        Set<String> found = new TreeSet<>();
        for (Method each : ViewStamps.class.getDeclaredMethods()) {
            if (!Modifier.isPrivate(each.getModifiers())) {
                Due.dueTrue(each + " is public, not static", each.getModifiers() == Modifier.PUBLIC);
                found.add(each.toString().replace("public ", "").replace("ViewStamps.", ""));
            }
        }
        Due.dueTrue("the sixteen methods, not " + found, found.equals(METHODS));
    }

    private static void constants() {
        Set<String> found = new TreeSet<>();
        for (Field each : ViewStamps.class.getDeclaredFields()) {
            if (!Modifier.isPrivate(each.getModifiers())) {
                found.add(each.toString());
            }
        }
        Set<String> due = new TreeSet<>();
        for (String name : new String[] {"NONE", "BAD", "STATE", "FULL"}) {
            due.add("public static final int ViewStamps." + name);
        }
        Due.dueTrue("the four constants, not " + found, found.equals(due));
        Due.due("NONE", ViewStamps.NONE, -1);
        Due.due("BAD", ViewStamps.BAD, -2);
        Due.due("STATE", ViewStamps.STATE, -3);
        Due.due("FULL", ViewStamps.FULL, -4);
    }

    private static void fields(Class<?> type) {
        int own = 0;
        for (Field each : type.getDeclaredFields()) {
            if (Modifier.isStatic(each.getModifiers())) {
                Due.dueTrue(each + " is final", Modifier.isFinal(each.getModifiers()));
            } else {
                own++;
            }
        }
        Due.dueTrue(type + " has at most twenty fields", own <= 20);
    }

    private static void methods(Class<?> type) {
        for (Method each : type.getDeclaredMethods()) {
            Due.dueTrue(each + " has at most seven parameters", each.getParameterCount() <= 7);
            Due.dueTrue(each + " is no lambda or bridge", !each.isSynthetic());
            if (!Modifier.isPublic(each.getModifiers())) {
                Due.dueTrue(each + " bears no name of the face", !NAMES.contains(each.getName()));
            }
        }
    }

    private static void text() throws IOException {
        String source = Files.readString(Path.of("src/main/java/ViewStamps.java"));
        String code = source.replaceAll("(?s)/\\*.*?\\*/", "").replaceAll("//[^\n]*", "");
        for (String word : RULED_OUT) {
            Matcher found = Pattern.compile("\\b" + word + "\\b").matcher(code);
            Due.dueTrue("no " + word, !found.find());
        }
        Due.dueTrue("no arrow, no method reference", !code.contains("->") && !code.contains("::"));
        for (String line : code.split("\n")) {
            Due.dueTrue("no import but of Arrays: " + line,
                !line.startsWith("import") || line.equals("import java.util.Arrays;"));
        }
    }
}

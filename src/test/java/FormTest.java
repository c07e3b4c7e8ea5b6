import java.io.IOException;
import java.lang.reflect.Constructor;
import java.lang.reflect.Field;
import java.lang.reflect.Method;
import java.lang.reflect.Modifier;
import java.nio.file.Files;
import java.nio.file.Path;
import java.util.ArrayList;
import java.util.List;
import java.util.Set;
import java.util.TreeSet;
import java.util.regex.Matcher;
import java.util.regex.Pattern;

/** The face of the document, and the rules of LANGUAGE.md that a text search can find broken. */
public final class FormTest {
    private static final Checks checks = new Checks();
    private static final Path SOURCE = Path.of("src/main/java/ReplicaSessions.java");

    private static final Set<String> FACE = Set.of(
        "addReplica(int,int)", "drop(int)", "setRate(int,int)", "stop(int,boolean)", "jumpBack(int,int)",
        "tick(int)", "replicas()", "replica(int,int)", "length()", "logged(int,int)", "position(int)",
        "version(int,int)", "value(int,int)", "missing(int,int)", "answers(int)", "open(int,int,int)",
        "close(int)", "move(int,int)", "change(int,int,int)", "hand(int,int)", "sessions()",
        "session(int,int)", "write(int,int,int)", "read(int,int)", "readAt(int,int,int)", "latest(int)",
        "waitFor(int,int,int)", "bestReplica(int,int)", "keysAfter(int,int,int)", "catchUp()", "append(int)",
        "clearText()", "errorPosition()", "execute()", "undo()", "save()", "restore()");
    private static final Set<String> CONSTANTS = Set.of(
        "NO_SUCH=-1", "BAD_VALUE=-2", "NOT_POSSIBLE=-3", "LIMIT=-4", "BAD_TEXT=-5", "NONE=-6", "PRIMARY=9",
        "OWN=1", "SEEN=2", "SHARP=4", "FALL_BACK=8");

    public static void main(String[] args) throws IOException, IllegalAccessException {
        face();
        members(ReplicaSessions.class);
        classesInside();
        forbiddenWords();
        lengths();
        checks.finish();
    }

    private static void face() throws IllegalAccessException {
        Class<?> type = ReplicaSessions.class;
        checks.holds("the class is public and final", type.getModifiers() == (Modifier.PUBLIC | Modifier.FINAL));
        Constructor<?>[] constructors = type.getDeclaredConstructors();
        checks.holds("one constructor, public, without parameters", constructors.length == 1
            && Modifier.isPublic(constructors[0].getModifiers()) && constructors[0].getParameterCount() == 0);
        Set<String> methods = new TreeSet<>();
        for (Method method : type.getDeclaredMethods()) {
            if (Modifier.isPublic(method.getModifiers())) {
                methods.add(method.getName() + parametersOf(method));
                checks.holds(method + " returns int and is not static",
                    method.getReturnType() == int.class && !Modifier.isStatic(method.getModifiers()));
            }
        }
        checks.holds("the public methods are those of the document: " + methods, methods.equals(FACE));
        Set<String> constants = new TreeSet<>();
        for (Field field : type.getDeclaredFields()) {
            if (Modifier.isPublic(field.getModifiers())) {
                constants.add(field.getName() + "=" + field.getInt(null));
                checks.holds(field + " is a constant", Modifier.isStatic(field.getModifiers())
                    && Modifier.isFinal(field.getModifiers()) && field.getType() == int.class);
            }
        }
        checks.holds("the constants are those of the document: " + constants, constants.equals(CONSTANTS));
    }

    private static String parametersOf(Method method) {
        List<String> types = new ArrayList<>();
        for (Class<?> type : method.getParameterTypes()) {
            types.add(type.getName());
        }
        return "(" + String.join(",", types) + ")";
    }

    private static void members(Class<?> type) {
        Set<String> publicNames = new TreeSet<>();
        FACE.forEach(method -> publicNames.add(method.substring(0, method.indexOf('('))));
        int fields = 0;
        for (Field field : type.getDeclaredFields()) {
            boolean isStatic = Modifier.isStatic(field.getModifiers());
            fields += isStatic ? 0 : 1;
            checks.holds(field + " is final if it is static", !isStatic || Modifier.isFinal(field.getModifiers()));
            checks.holds(field + " is private or public", type != ReplicaSessions.class
                || Modifier.isPrivate(field.getModifiers()) || Modifier.isPublic(field.getModifiers()));
        }
        checks.holds(type + " has at most 20 fields", fields <= 20);
        for (Method method : type.getDeclaredMethods()) {
            boolean isPublic = Modifier.isPublic(method.getModifiers());
            checks.holds(method + " has at most seven parameters", method.getParameterCount() <= 7);
            checks.holds(method + " bears no public name", isPublic || !publicNames.contains(method.getName()));
            checks.holds(method + " is private or public", type != ReplicaSessions.class || isPublic
                || Modifier.isPrivate(method.getModifiers()));
        }
    }

    private static void classesInside() {
        Class<?>[] inside = ReplicaSessions.class.getDeclaredClasses();
        checks.holds("at most 11 classes inside", inside.length <= 11);
        for (Class<?> type : inside) {
            checks.holds(type + " is static", Modifier.isStatic(type.getModifiers()));
            checks.holds(type + " is neither public nor protected",
                !Modifier.isPublic(type.getModifiers()) && !Modifier.isProtected(type.getModifiers()));
            checks.holds(type + " has no class inside", type.getDeclaredClasses().length == 0);
            members(type);
        }
    }

    /** The source without comments. */
    private static String code() throws IOException {
        return Files.readString(SOURCE).replaceAll("(?s)/\\*.*?\\*/", "").replaceAll("//[^\\n]*", "");
    }

    private static void forbiddenWords() throws IOException {
        String code = code();
        String[] forbidden = {
            "\\bpackage\\b", "\\bthrow\\b", "\\bthrows\\b", "\\btry\\b", "\\bcatch\\b", "\\bfinally\\b",
            "\\bsynchronized\\b", "\\bassert\\b", "\\bvolatile\\b", "\\btransient\\b", "\\bnative\\b", "->", "::",
            "\\bequals\\b", "\\bhashCode\\b", "\\btoString\\b", "\\bSystem\\.(?!arraycopy\\b)", "Exact\\b",
            "\\bRandom\\b", "\\bThread\\b", "\\bObject\\b", "\\bwhile \\(true\\)", "\\bfor \\(;;\\)", "\\bprotected\\b",
        };
        for (String word : forbidden) {
            checks.holds("nothing in the program is like " + word, !Pattern.compile(word).matcher(code).find());
        }
        Matcher imports = Pattern.compile("import ([\\w.*]+);").matcher(code);
        while (imports.find()) {
            checks.holds("import of " + imports.group(1), imports.group(1).equals("java.util.Arrays"));
        }
        Matcher calls = Pattern.compile("\\b(?:Math|Arrays|System)\\.(\\w+)").matcher(code);
        while (calls.find()) {
            checks.holds("call of " + calls.group(1),
                Set.of("max", "min", "floorMod", "fill", "arraycopy").contains(calls.group(1)));
        }
        checks.holds("signs 1 to 127 alone", code.chars().allMatch(sign -> sign >= 1 && sign <= 127));
    }

    /** A method of the class begins with four or eight blanks, and ends with as many. */
    private static void lengths() throws IOException {
        for (String indent : new String[] {"    ", "        "}) {
            Matcher methods = Pattern.compile(
                "(?m)^" + indent + "(?:[\\w\\[\\]]+ )+\\w+\\([^)]*\\) \\{$(?s:.*?)^" + indent + "\\}$").matcher(code());
            boolean any = false;
            while (methods.find()) {
                any = true;
                String method = methods.group();
                checks.holds("at most sixty lines: " + method.lines().findFirst().orElse(""),
                    method.lines().count() <= 60);
            }
            checks.holds("there are methods", any);
        }
    }
}

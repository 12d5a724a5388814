import java.io.IOException;
import java.lang.reflect.Constructor;
import java.lang.reflect.Field;
import java.lang.reflect.Method;
import java.lang.reflect.Modifier;
import java.nio.file.Files;
import java.nio.file.Path;
import java.util.ArrayList;
import java.util.Arrays;
import java.util.List;
import java.util.TreeSet;
import java.util.regex.Matcher;
import java.util.regex.Pattern;

/** The public face, and what of LANGUAGE.md can be seen from outside and in the source. */
public final class FaceTest {
    private static final String[] FACE = {
        "int write(int)", "int wipe()", "int fault()", "int pit()", "int about(int)", "int hand(int, int)", "int field(int, int)",
        "int day()", "int send(int, int)", "int turn(int)", "int lay(int)", "int rain()", "int undo()", "int makes(int, int)",
        "int best(int)", "int least()", "int ask()", "int lasts()", "int spare(int, int, int, int)", "int share(int, boolean)",
        "int see(int, int, int)", "int unsee()", "int courses(int, int)", "int rests(int)", "int chance(int, int, int, boolean)",
        "long seed(long)", "int years(int)", "int keep(int)", "int again(int)"};

    public static void main(String[] args) throws IOException {
        face();
        classesInside();
        source(Files.readString(Path.of("src/main/java/Strawless.java")));
        Due.end();
    }

    private static void face() {
        Due.is("public final", Strawless.class.getModifiers(), Modifier.PUBLIC | Modifier.FINAL);
        TreeSet<String> methods = new TreeSet<>();
        for (Method method : Strawless.class.getDeclaredMethods()) {
            if (!Modifier.isPrivate(method.getModifiers())) {
                Due.is(method + " is public alone", method.getModifiers(), Modifier.PUBLIC);
                methods.add(told(method));
            }
        }
        Due.same("the methods", methods.toString(), new TreeSet<>(Arrays.asList(FACE)).toString());
        TreeSet<String> constants = new TreeSet<>();
        for (Field field : Strawless.class.getDeclaredFields()) {
            if (!Modifier.isPrivate(field.getModifiers())) {
                constants.add(Modifier.toString(field.getModifiers()) + " " + field.getType() + " " + field.getName());
            }
        }
        Due.same("the constants", constants.toString(), "[public static final int BAD, public static final int FULL, "
            + "public static final int LATE, public static final int NONE, public static final int UNKNOWN]");
        Constructor<?>[] constructors = Strawless.class.getDeclaredConstructors();
        Due.is("constructors", constructors.length, 1);
        Due.is("constructor is public", constructors[0].getModifiers(), Modifier.PUBLIC);
        Due.is("constructor takes nothing", constructors[0].getParameterCount(), 0);
    }

    private static String told(Method method) {
        List<String> types = new ArrayList<>();
        for (Class<?> type : method.getParameterTypes()) {
            types.add(type.getName());
        }
        return method.getReturnType() + " " + method.getName() + "(" + String.join(", ", types) + ")";
    }

    private static void classesInside() {
        TreeSet<String> names = new TreeSet<>();
        for (String method : FACE) {
            names.add(method.replaceAll("^\\w+ |\\(.*", ""));
        }
        List<Class<?>> all = new ArrayList<>(Arrays.asList(Strawless.class.getDeclaredClasses()));
        Due.is("at most twelve classes", all.size() <= 12 ? 1 : 0, 1);
        for (Class<?> inside : all) {
            Due.is(inside + " is static", Modifier.isStatic(inside.getModifiers()) ? 1 : 0, 1);
            Due.is(inside + " is not public", inside.getModifiers() & (Modifier.PUBLIC | Modifier.PROTECTED), 0);
        }
        all.add(Strawless.class);
        for (Class<?> each : all) {
            for (Method method : each.getDeclaredMethods()) {
                boolean own = each != Strawless.class || Modifier.isPrivate(method.getModifiers());
                Due.is(method + " bears a name of the face", own && names.contains(method.getName()) ? 1 : 0, 0);
                Due.is(method + " takes seven at most", method.getParameterCount() <= 7 ? 1 : 0, 1);
            }
            int ofObjects = 0;
            for (Field field : each.getDeclaredFields()) {
                boolean isStatic = Modifier.isStatic(field.getModifiers());
                Due.is(field + " is final if static", isStatic && !Modifier.isFinal(field.getModifiers()) ? 1 : 0, 0);
                ofObjects += isStatic ? 0 : 1;
            }
            Due.is(each + " has some twenty fields at most", ofObjects <= 20 ? 1 : 0, 1);
        }
    }

    private static void source(String whole) {
        String code = whole.replaceAll("(?s)/\\*.*?\\*/", " ").replaceAll("//[^\n]*", " ").replaceAll("'[^']'", "0");
        String[] ruledOut = {"\\bthrow\\b", "\\bthrows\\b", "\\btry\\b", "\\bcatch\\b", "\\bsynchronized\\b", "\\bassert\\b", "->", "::",
            "\\bpackage\\b", "Exact\\b", "\\bequals\\b", "\\bhashCode\\b", "\\btoString\\b", "\\bSystem\\.(?!arraycopy\\b)", "\\bRandom\\b",
            "\\bThread\\b", "\\bstatic\\s*\\{", "\\bvolatile\\b", "\\bprotected\\b", "while\\s*\\(true\\)", "for\\s*\\(;;\\)"};
        for (String pattern : ruledOut) {
            Matcher matcher = Pattern.compile(pattern).matcher(code);
            Due.same("the source", matcher.find() ? matcher.group() : "", "");
        }
        Matcher imports = Pattern.compile("import ([^;]+);").matcher(code);
        while (imports.find()) {
            Due.same("import", imports.group(1), "java.util.Arrays");
        }
        shortMethods(code);
    }

    /** A method begins at a line with a brace that is no class, and ends where its indent is met again. */
    private static void shortMethods(String code) {
        String[] lines = code.split("\n");
        for (int n = 0; n < lines.length; n++) {
            Matcher head = Pattern.compile("^( {4}| {8})\\w.*\\) \\{$").matcher(lines[n]);
            if (head.find()) {
                int end = n;
                while (end < lines.length - 1 && !lines[end].equals(head.group(1) + "}")) {
                    end++;
                }
                Due.is("line " + (n + 1) + " begins a short method", end - n <= 60 ? 1 : 0, 1);
            }
        }
    }
}

import java.io.IOException;
import java.lang.reflect.Constructor;
import java.lang.reflect.Executable;
import java.lang.reflect.Field;
import java.lang.reflect.Method;
import java.lang.reflect.Modifier;
import java.nio.file.Files;
import java.nio.file.Path;
import java.util.Arrays;
import java.util.TreeSet;

/** The public face to the letter, and those rules of LANGUAGE.md that can be seen from outside or in the text. */
public final class FaceTest {
    private static final String INDEX = "IndexOutOfBoundsException";
    private static final String ARGUMENT = "IllegalArgumentException";
    private static final String STATE = "IllegalStateException";

    public static void main(String[] args) throws IOException {
        constants();
        methods();
        hidden();
        text();
        Check.end("FaceTest");
    }

    private static void constants() {
        int[] got = {Heliokeep.NONE, Heliokeep.STOWED, Heliokeep.EMPTY, Heliokeep.FILLED, Heliokeep.PLUGGED,
                Heliokeep.STILL, Heliokeep.WARMING, Heliokeep.RUNS};
        Check.due("the constants", Arrays.toString(got), "[-1, -1, 0, 1, 2, 0, 1, 2]");
        TreeSet<String> names = new TreeSet<>();
        for (Field field : Heliokeep.class.getDeclaredFields()) {
            if (!Modifier.isPublic(field.getModifiers())) continue;
            names.add(Modifier.toString(field.getModifiers()) + " " + field.getType() + " " + field.getName());
        }
        TreeSet<String> want = new TreeSet<>();
        for (String name : "NONE STOWED EMPTY FILLED PLUGGED STILL WARMING RUNS".split(" ")) {
            want.add("public static final int " + name);
        }
        Check.due("the names of the constants", names, want);
    }

    private static void methods() {
        TreeSet<String> want = new TreeSet<>();
        want.add("void drift(int, int) " + INDEX + " " + ARGUMENT);
        for (String name : "mirror measure wash".split(" ")) want.add("int " + name + "(int) " + INDEX + " " + STATE);
        for (String name : "correct mirrorIs power bound price firm".split(" ")) {
            want.add("int " + name + "(int, int) " + INDEX + " " + ARGUMENT);
        }
        want.add("int aim(int, int) " + INDEX + " " + ARGUMENT + " " + STATE);
        want.add("boolean fail(int, boolean) " + INDEX);
        for (String name : "haze load plantIs".split(" ")) want.add("int " + name + "(int) " + ARGUMENT);
        want.add("int cloud(int, int, int, int, int, int) " + ARGUMENT + " " + STATE);
        want.add("int clear()");
        for (String name : "flux fluxAnew strain".split(" ")) want.add("int " + name + "(int) " + INDEX);
        want.add("boolean isSafe()");
        want.add("int best(int, int) " + ARGUMENT + " " + STATE);
        for (String name : "bestAnew salt water pass".split(" ")) {
            want.add("int " + name + "(int) " + ARGUMENT + " " + STATE);
        }
        want.add("int pipe(boolean) " + STATE);
        want.add("boolean trace(boolean)");
        want.add("int stop() " + STATE);
        want.add("long sum(int) " + ARGUMENT);
        want.add("float kept()");
        TreeSet<String> got = new TreeSet<>();
        for (Method method : Heliokeep.class.getDeclaredMethods()) {
            if (Modifier.isPublic(method.getModifiers())) got.add(signature(method));
        }
        Check.due("the methods", got, want);
        Constructor<?>[] constructors = Heliokeep.class.getDeclaredConstructors();
        Check.due("constructors", constructors.length, 1);
        Check.due("the constructor", Modifier.isPublic(constructors[0].getModifiers()), true);
        Check.due("its arguments", constructors[0].getParameterCount(), 0);
    }

    private static String signature(Method method) {
        StringBuilder text = new StringBuilder();
        text.append(method.getReturnType().getName()).append(' ').append(method.getName()).append('(');
        String between = "";
        for (Class<?> type : method.getParameterTypes()) {
            text.append(between).append(type.getName());
            between = ", ";
        }
        text.append(')');
        for (Class<?> kind : method.getExceptionTypes()) text.append(' ').append(kind.getSimpleName());
        return text.toString();
    }

    private static void hidden() {
        int modifiers = Heliokeep.class.getModifiers();
        Check.due("public", Modifier.isPublic(modifiers), true);
        Check.due("final", Modifier.isFinal(modifiers), true);
        Check.due("without a package", Heliokeep.class.getPackageName(), "");
        TreeSet<String> open = new TreeSet<>();
        for (Method method : Heliokeep.class.getDeclaredMethods()) {
            if (Modifier.isPublic(method.getModifiers())) open.add(method.getName());
        }
        for (Class<?> inner : Heliokeep.class.getDeclaredClasses()) {
            Check.due(inner + " is static", Modifier.isStatic(inner.getModifiers()), true);
            for (Method method : inner.getDeclaredMethods()) hidden(method, open);
        }
        for (Method method : Heliokeep.class.getDeclaredMethods()) {
            if (Modifier.isPublic(method.getModifiers())) continue;
            Check.due(method + " is private", Modifier.isPrivate(method.getModifiers()), true);
            hidden(method, open);
        }
        int held = 0;
        for (Field field : Heliokeep.class.getDeclaredFields()) {
            int has = field.getModifiers();
            Check.due(field + " is private, or a constant", Modifier.isPrivate(has)
                    || Modifier.isPublic(has) && Modifier.isStatic(has) && Modifier.isFinal(has), true);
            if (Modifier.isStatic(has)) Check.due(field + " is final", Modifier.isFinal(has), true);
            else held++;
        }
        Check.due("some twenty fields", held <= 24, true);
    }

    private static void hidden(Executable method, TreeSet<String> open) {
        Check.due(method + " has a name of its own", open.contains(method.getName()), false);
        Check.due(method + " has few parameters", method.getParameterCount() <= 7, true);
    }

    private static void text() throws IOException {
        String text = Files.readString(Path.of("src/main/java/Heliokeep.java"));
        Check.due("signs up to 127", text.chars().allMatch(sign -> sign < 128), true);
        String[] refused = {"package ", "::", "finally", "synchronized", "assert ", "Exact(", "static {", "Random",
                "Thread", "hashCode", "getMessage", "protected ", "Throwable", "ArrayIndexOutOfBounds", "NullPointer",
                "ClassCast", "NegativeArraySize", "ArrayStore"};
        for (String word : refused) Check.due("without " + word, text.contains(word), false);
        Check.due("nothing of System but arraycopy", text.replace("System.arraycopy", "").contains("System."), false);
        String library = "import java\\.util\\.(ArrayList|Arrays|Iterator|List|NoSuchElementException);";
        Check.due("no other import", text.lines().filter(line -> line.startsWith("import "))
                .allMatch(line -> line.matches(library)), true);
    }
}

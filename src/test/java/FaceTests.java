import java.io.IOException;
import java.lang.reflect.Field;
import java.lang.reflect.Method;
import java.lang.reflect.Modifier;
import java.nio.file.Files;
import java.nio.file.Path;
import java.util.ArrayList;
import java.util.List;
import java.util.Set;
import java.util.TreeSet;

/** The public face as the document has it, and those rules of LANGUAGE.md that can be read off the class. */
public final class FaceTests {
    private static final Set<String> METHODS = Set.of("int graph(int, int)", "int clock(int)",
        "int put(int, int, int)", "int take(int, int, int)", "int set(int, int, int, long)",
        "int has(int, int, int)", "long at(int, int, int)", "int arc(int, int, int)", "int reach(int, int, int)",
        "int rows(int, int)", "int row(int, int)", "long was(int, int)", "int turn(int)", "int join(int, int, int)",
        "int conflict(int, int)", "int letGo(int)", "int chunk(int, int)", "int shared(int, int)", "int parent(int)",
        "int ancestor(int, int)", "int time(int)", "int count(int)");
    private static final Set<String> CONSTANTS = Set.of("BAD", "NO", "FULL", "NONE");
    private static final List<String> NOT_THESE = List.of("throw", "try", "catch", "synchronized", "assert", "import",
        "package", "double", "float", "Object");

    private static final List<String> faults = new ArrayList<>();

    private static void must(boolean holds, String what) {
        if (!holds) {
            faults.add(what);
        }
    }

    private static String named(Method method) {
        List<String> parameters = new ArrayList<>();
        for (Class<?> type : method.getParameterTypes()) {
            parameters.add(type.getName());
        }
        return method.getReturnType().getName() + " " + method.getName() + "(" + String.join(", ", parameters) + ")";
    }

    private static boolean isPublicName(String name) {
        return METHODS.stream().anyMatch(method -> method.contains(" " + name + "("));
    }

    private static void checkMethods() {
        Set<String> found = new TreeSet<>();
        for (Method method : VersionChunks.class.getDeclaredMethods()) {
            if (Modifier.isPublic(method.getModifiers())) {
                found.add(named(method));
                must(!Modifier.isStatic(method.getModifiers()), method.getName() + " is static");
            } else {
                must(Modifier.isPrivate(method.getModifiers()), method.getName() + " is neither public nor private");
                must(!isPublicName(method.getName()), "a private method bears the public name " + method.getName());
            }
        }
        must(found.equals(METHODS), "the public methods are " + found);
    }

    private static void checkFields() {
        Set<String> found = new TreeSet<>();
        for (Field field : VersionChunks.class.getDeclaredFields()) {
            int kind = field.getModifiers();
            if (Modifier.isPublic(kind)) {
                found.add(field.getName());
                must(field.getType() == int.class, field.getName() + " is no int");
            } else {
                must(Modifier.isPrivate(kind), field.getName() + " is neither public nor private");
            }
            must(!Modifier.isStatic(kind) || Modifier.isFinal(kind), field.getName() + " is static and not final");
        }
        must(found.equals(CONSTANTS), "the public fields are " + found);
        must(VersionChunks.BAD == -1 && VersionChunks.NO == -2, "BAD, NO");
        must(VersionChunks.FULL == -3 && VersionChunks.NONE == -99999999, "FULL, NONE");
    }

    private static void checkClasses() {
        int kind = VersionChunks.class.getModifiers();
        must(Modifier.isPublic(kind) && Modifier.isFinal(kind), "the class is public and final");
        must(VersionChunks.class.getDeclaredConstructors().length == 1, "one constructor");
        must(VersionChunks.class.getConstructors().length == 1, "a public constructor");
        for (Class<?> inside : VersionChunks.class.getDeclaredClasses()) {
            must(Modifier.isStatic(inside.getModifiers()), inside.getName() + " is static");
        }
    }

    private static void checkRules() {
        List<Class<?>> all = new ArrayList<>(List.of(VersionChunks.class.getDeclaredClasses()));
        for (Class<?> inside : all) {
            for (Method method : inside.getDeclaredMethods()) {
                must(!isPublicName(method.getName()), method + " bears the name of a public one");
            }
        }
        all.add(VersionChunks.class);
        must(all.size() <= 12, "there are " + all.size() + " classes");
        for (Class<?> each : all) {
            int fields = 0;
            for (Field field : each.getDeclaredFields()) {
                fields += Modifier.isStatic(field.getModifiers()) ? 0 : 1;
            }
            must(fields <= 20, each.getName() + " has " + fields + " fields");
            for (Method method : each.getDeclaredMethods()) {
                must(!method.isSynthetic(), method + " was made for a lambda or an inner class");
                must(method.getParameterCount() <= 7, method + " has too many parameters");
            }
        }
    }

    private static void checkWords() throws IOException {
        String source = Files.readString(Path.of("src/main/java/VersionChunks.java"));
        String code = source.replaceAll("(?s)/\\*.*?\\*/", " ").replaceAll("//[^\n]*", " ");
        Set<String> words = new TreeSet<>(List.of(code.split("[^A-Za-z0-9_]+")));
        for (String word : NOT_THESE) {
            must(!words.contains(word), "the program has the word " + word);
        }
        must(source.chars().allMatch(c -> c < 256), "the program has a character above 255");
    }

    public static void main(String[] args) throws IOException {
        checkMethods();
        checkFields();
        checkClasses();
        checkRules();
        checkWords();
        for (String fault : faults) {
            System.out.println("not as due: " + fault);
        }
        System.out.println(faults.isEmpty() ? "the face is as due" : faults.size() + " faults");
        if (!faults.isEmpty()) {
            System.exit(1);
        }
    }
}

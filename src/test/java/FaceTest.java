import java.io.IOException;
import java.lang.reflect.Constructor;
import java.lang.reflect.Field;
import java.lang.reflect.Method;
import java.lang.reflect.Modifier;
import java.nio.charset.StandardCharsets;
import java.nio.file.Files;
import java.nio.file.Path;
import java.util.ArrayList;
import java.util.Arrays;
import java.util.List;
import java.util.TreeSet;

/** The class shows the document's public face, to the letter, and nothing else; run in the project's directory. */
public final class FaceTest {
    private static final Path DOCUMENT = Path.of("../shared/DOC.md");
    private static final Path SOURCE = Path.of("src/main/java/Shredroll.java");

    private static final String INDEX = "java.lang.IndexOutOfBoundsException";
    private static final String ARGUMENT = "java.lang.IllegalArgumentException";
    private static final String STATE = "java.lang.IllegalStateException";
    private static final String NO_ELEMENT = "java.util.NoSuchElementException";

    private static final String[] METHODS = {
        method("int bring(int, int, int)", INDEX, ARGUMENT, STATE),
        method("int offer(int, int)", INDEX, ARGUMENT, STATE),
        method("int answer(int, boolean)", INDEX, STATE),
        method("int pack(int, int)", INDEX, STATE),
        method("int unpack(int)", INDEX, STATE),
        method("int seal(int)", INDEX, STATE),
        method("int open(int, int)", INDEX, ARGUMENT, STATE),
        method("int carry(int, int)", INDEX, ARGUMENT, STATE),
        method("int wipe(int, int, int)", INDEX, ARGUMENT, STATE),
        method("int smash(int, int)", INDEX, ARGUMENT, STATE),
        method("int check(int, int, boolean)", INDEX, ARGUMENT, STATE),
        method("int lose(int)", INDEX, STATE),
        method("int find(int)", INDEX, STATE),
        method("int certify(int)", INDEX, NO_ELEMENT),
        method("int disks()"),
        method("int keeperOf(int)", INDEX),
        method("int keeperByLog(int)", INDEX),
        method("int crateOf(int)", INDEX),
        method("int stateOf(int)", INDEX),
        method("boolean isDone(int)", INDEX),
        method("int offeredTo(int)", INDEX),
        method("int certificateOf(int)", INDEX),
        method("int crateKeeper(int)", INDEX),
        method("int sealOf(int)", INDEX),
        method("int has(int)", INDEX),
        method("int missing()"),
        method("int oddCounts()"),
        method("int logged()"),
        method("int certificates()"),
    };

    private static final String[] CONSTANTS = {"NONE=-1", "RAW=0", "WIPED=1", "SPOILED=2", "BROKEN=3"};

    public static void main(String[] args) throws IllegalAccessException, IOException {
        Tester tester = new Tester();
        tester.due("modifiers", Modifier.toString(Shredroll.class.getModifiers()), "public final");
        tester.due("methods", shownMethods(), new TreeSet<>(Arrays.asList(METHODS)));
        tester.due("constants", shownConstants(), new TreeSet<>(Arrays.asList(CONSTANTS)));
        tester.due("constructors", shownConstructors(), List.of("public Shredroll()"));
        tester.due("private methods named like public ones", namesakes(), new TreeSet<String>());
        tester.due("static fields that are not final", changeableStatics(), new TreeSet<String>());
        hasEachLineOfTheDocument(tester);
        tester.end();
    }

    /** Reflection does not tell the names of parameters; the text of the class does. */
    private static void hasEachLineOfTheDocument(Tester tester) throws IOException {
        String source = Files.readString(SOURCE, StandardCharsets.UTF_8).replaceAll("\\s+", " ");
        List<String> face = faceOfTheDocument();
        // The constructor, and two lines of constants.
        tester.due("lines of the document's face", face.size(), METHODS.length + 3);
        for (String line : face) {
            boolean isConstant = line.startsWith("public static final ");
            String due = isConstant ? line : line.replace("java.util.", "").replaceFirst(";$", " {");
            tester.due("the class has the line " + due, source.contains(" " + due + " "), true);
        }
    }

    private static List<String> faceOfTheDocument() throws IOException {
        List<String> document = Files.readAllLines(DOCUMENT, StandardCharsets.UTF_8);
        int start = document.indexOf("public final class Shredroll {") + 1;
        List<String> face = new ArrayList<>();
        for (int i = start; i < document.size() && !document.get(i).equals("}"); i++) {
            face.add(document.get(i).strip());
        }
        return face;
    }

    private static String method(String signature, String... thrown) {
        return "public " + signature + " throws " + Arrays.toString(thrown);
    }

    private static TreeSet<String> shownMethods() {
        TreeSet<String> shown = new TreeSet<>();
        for (Method method : Shredroll.class.getDeclaredMethods()) {
            if (!Modifier.isPrivate(method.getModifiers())) {
                shown.add(Modifier.toString(method.getModifiers()) + " " + method.getReturnType().getName() + " "
                        + method.getName() + "(" + names(method.getParameterTypes()) + ") throws "
                        + Arrays.toString(namesOf(method.getExceptionTypes())));
            }
        }
        return shown;
    }

    private static TreeSet<String> shownConstants() throws IllegalAccessException {
        TreeSet<String> shown = new TreeSet<>();
        for (Field field : Shredroll.class.getDeclaredFields()) {
            if (!Modifier.isPrivate(field.getModifiers())) {
                boolean isConstant = Modifier.toString(field.getModifiers()).equals("public static final")
                        && field.getType() == int.class;
                shown.add(isConstant ? field.getName() + "=" + field.getInt(null) : field.toString());
            }
        }
        return shown;
    }

    private static List<String> shownConstructors() {
        List<String> shown = new ArrayList<>();
        for (Constructor<?> constructor : Shredroll.class.getDeclaredConstructors()) {
            shown.add(constructor.toString());
        }
        return shown;
    }

    private static TreeSet<String> namesakes() {
        TreeSet<String> open = new TreeSet<>();
        TreeSet<String> hidden = new TreeSet<>();
        for (Method method : Shredroll.class.getDeclaredMethods()) {
            (Modifier.isPrivate(method.getModifiers()) ? hidden : open).add(method.getName());
        }
        hidden.retainAll(open);
        return hidden;
    }

    private static TreeSet<String> changeableStatics() {
        TreeSet<String> found = new TreeSet<>();
        for (Field field : Shredroll.class.getDeclaredFields()) {
            if (Modifier.isStatic(field.getModifiers()) && !Modifier.isFinal(field.getModifiers())) {
                found.add(field.getName());
            }
        }
        return found;
    }

    private static String names(Class<?>[] classes) {
        return String.join(", ", namesOf(classes));
    }

    private static String[] namesOf(Class<?>[] classes) {
        String[] names = new String[classes.length];
        for (int i = 0; i < classes.length; i++) {
            names[i] = classes[i].getName();
        }
        return names;
    }
}

import java.io.IOException;
import java.lang.reflect.Field;
import java.lang.reflect.Method;
import java.lang.reflect.Modifier;
import java.nio.file.Files;
import java.nio.file.Path;
import java.util.Set;
import java.util.TreeSet;

/** The face is the document's, to the word, and no more. */
public final class FaceTest {
    private static final int ROWS = 51;

    public static void main(String[] args) throws IOException {
        String document = Files.readString(Path.of("../shared/DOC.md"));
        int from = document.indexOf("public final class PainBank {");
        Set<String> due = publicRows(document.substring(from, document.indexOf("```", from)));
        Set<String> seen = publicRows(Files.readString(Path.of("src/main/java/PainBank.java")));
        Check.due("rows of the document's face", due.size(), ROWS);
        for (String row : due) {
            Check.due("the face has " + row, seen.contains(row), true);
        }
        for (String row : seen) {
            Check.due("the document has " + row, due.contains(row), true);
        }
        nothingElse();
        Check.finish();
    }

    /** What stands behind four blanks is the class's own: its nested classes' members stand deeper. */
    private static Set<String> publicRows(String text) {
        Set<String> rows = new TreeSet<>();
        for (String line : text.split("\n")) {
            if (line.startsWith("    public ")) {
                rows.add(line.trim().replaceAll("( \\{|;)$", ""));
            }
        }
        return rows;
    }

    private static void nothingElse() {
        Set<String> names = new TreeSet<>();
        for (Method m : PainBank.class.getDeclaredMethods()) {
            if (Modifier.isPublic(m.getModifiers())) {
                names.add(m.getName());
            }
        }
        for (Method m : PainBank.class.getDeclaredMethods()) {
            Check.due(m + " public or private", Modifier.isPublic(m.getModifiers()) || Modifier.isPrivate(m.getModifiers()), true);
            Check.due(m + " of a public name", !Modifier.isPublic(m.getModifiers()) && names.contains(m.getName()), false);
        }
        for (Field f : PainBank.class.getDeclaredFields()) {
            Check.due(f + " hidden", Modifier.isPrivate(f.getModifiers()), !f.getName().equals("NONE"));
        }
        Check.due("constructors", PainBank.class.getDeclaredConstructors().length, 1);
        Check.due("final", Modifier.isFinal(PainBank.class.getModifiers()), true);
        Check.due("NONE", PainBank.NONE, -1);
        for (Class<?> inside : PainBank.class.getDeclaredClasses()) {
            for (Method m : inside.getDeclaredMethods()) {
                Check.due(m + " of a public name", names.contains(m.getName()), false);
            }
        }
    }
}

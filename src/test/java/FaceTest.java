import java.lang.reflect.Constructor;
import java.lang.reflect.Field;
import java.lang.reflect.Method;
import java.lang.reflect.Modifier;
import java.util.Arrays;
import java.util.TreeSet;

/** The face is the document's and no more. */
public final class FaceTest {
    private static final String METHODS = "int feed(int,int,int,int,int)|boolean end(int)|int bank()|int law()|int fault()"
        + "|int person(int,int)|int pain(int,int)|int owed(int,int)|int today(int,int)|int put(int,int)|int draw(int,int)"
        + "|int cheque(int,int,int)|int owe(int,int,int)|int net()|int die(int)|int hear(int,int)|boolean refound()|int days(int)"
        + "|int ahead(int,int)|boolean fails(int)|int first(boolean)|int plan(int,int,int)|int cost(int,int)|int netted()"
        + "|int ring(int)|int run(int,boolean)|int spark()|int reserve()|int feelings()|int saint(int,int,boolean)"
        + "|boolean share(int,int)|int shares(int,int)|int could(int)|int fewest()|int quiet(boolean)|int peak(int,int,boolean)"
        + "|int needed(int)|int parted(boolean)|int rank(int)|int strike()|int trial(int,boolean)|int span(int,boolean)"
        + "|int led(int,boolean)|int log(int,int)|int seed(int)|boolean undo()|void image()|boolean back()|int count(int)";

    public static void main(String[] args) {
        TreeSet<String> due = new TreeSet<>(Arrays.asList(METHODS.split("\\|")));
        TreeSet<String> names = new TreeSet<>();
        TreeSet<String> seen = new TreeSet<>();
        for (Method m : PainBank.class.getDeclaredMethods()) {
            if (Modifier.isPublic(m.getModifiers())) {
                StringBuilder row = new StringBuilder(m.getReturnType().getName() + " " + m.getName() + "(");
                for (Class<?> p : m.getParameterTypes()) {
                    row.append(row.charAt(row.length() - 1) == '(' ? "" : ",").append(p.getName());
                }
                seen.add(row.append(")").toString());
                names.add(m.getName());
            }
        }
        Check.due("public methods " + seen, seen.equals(due), true);
        for (Method m : PainBank.class.getDeclaredMethods()) {
            Check.due(m + " public or private", Modifier.isPublic(m.getModifiers()) || Modifier.isPrivate(m.getModifiers()), true);
            Check.due(m + " of a public name", !Modifier.isPublic(m.getModifiers()) && names.contains(m.getName()), false);
        }
        for (Field f : PainBank.class.getDeclaredFields()) {
            Check.due(f + " visible", Modifier.isPrivate(f.getModifiers()), !f.getName().equals("NONE"));
        }
        Constructor<?>[] made = PainBank.class.getConstructors();
        Check.due("constructors", made.length, 1);
        Check.due("final", Modifier.isFinal(PainBank.class.getModifiers()), true);
        Check.due("NONE", PainBank.NONE, -1);
        for (Class<?> inside : PainBank.class.getDeclaredClasses()) {
            for (Method m : inside.getDeclaredMethods()) {
                Check.due(m + " of a public name", names.contains(m.getName()), false);
            }
        }
        Check.finish();
    }
}

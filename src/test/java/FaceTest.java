import java.io.IOException;
import java.lang.reflect.Member;
import java.lang.reflect.Method;
import java.lang.reflect.Modifier;
import java.nio.file.Files;
import java.nio.file.Path;
import java.util.Arrays;
import java.util.HashSet;
import java.util.List;
import java.util.Set;
import java.util.TreeSet;

/** The public face, and such rules of the language as can be seen from outside. */
public final class FaceTest {
    private static final Set<String> FACE = new TreeSet<>(Arrays.asList(
            "feed(int,int,int,int,int)", "desk(int)", "fault()", "where()", "about(int)", "order(int,int)",
            "payer(int,int)", "table(int,int,int)", "row(int,int,int)", "floor(int,int)", "ownFloor(int,int,int)",
            "past(int,int)", "pastOf(int,int,int)", "would(int,int,int,int)", "left(int,int)",
            "ranked(int,int,int)", "enough(int,int)", "first(int,int)", "done(int,int)", "ahead(int,int,int,int)",
            "steady(int)", "weeks(int)", "pay(int,int)", "stop(int,boolean)", "rank(int,int)", "raise(int,int)",
            "total(int,int)", "at(int,int)", "back(int,int)", "forgive(int)", "turn(int,int)", "size()",
            "trouble()"));
    private static final List<String> FOREIGN = List.of("->", "::", "catch", "finally", "synchronized", "assert ",
            "Exact", "protected", "instanceof", "System.out", "Random", "Thread", "\" +", "+ \"", " var ", "static {");
    private static final Due due = new Due();

    public static void main(String[] args) throws IOException {
        theFace();
        theSource();
        due.end("FaceTest");
    }

    private static void theFace() {
        Class<PayOrders> c = PayOrders.class;
        Set<String> shown = new TreeSet<>();
        Set<String> names = new HashSet<>();
        for (Method m : c.getDeclaredMethods()) {
            if (!Modifier.isPrivate(m.getModifiers())) {
                String types = Arrays.toString(m.getParameterTypes()).replaceAll("[\\[\\] ]", "");
                shown.add(m.getName() + "(" + types + ")");
                names.add(m.getName());
                due.is(m.getName() + " is public and answers an int",
                        Modifier.isPublic(m.getModifiers()) && m.getReturnType() == int.class ? 1 : 0, 1);
            }
        }
        due.is("the methods " + shown, shown.equals(FACE) ? 1 : 0, 1);
        for (Method m : c.getDeclaredMethods()) {
            boolean hidden = Modifier.isPrivate(m.getModifiers()) && names.contains(m.getName());
            due.is(m.getName() + " is private with a public name", hidden ? 1 : 0, 0);
        }
        due.is("one constructor", c.getDeclaredConstructors().length, 1);
        due.is("final", Modifier.isFinal(c.getModifiers()) ? 1 : 0, 1);
        due.is("NONE", PayOrders.NONE, -1);
        for (Member f : c.getDeclaredFields()) {
            boolean isPrivate = Modifier.isPrivate(f.getModifiers());
            due.is(f.getName() + " is shown", isPrivate ? 0 : 1, f.getName().equals("NONE") ? 1 : 0);
        }
        for (Class<?> inner : c.getDeclaredClasses()) {
            due.is(inner.getName() + " is static", Modifier.isStatic(inner.getModifiers()) ? 1 : 0, 1);
        }
    }

    private static void theSource() throws IOException {
        List<String> lines = Files.readAllLines(Path.of("src/main/java/PayOrders.java"));
        int begun = -1;
        for (int i = 0; i < lines.size(); i++) {
            String line = lines.get(i);
            String code = line.replaceAll("//.*|/\\*\\*.*", "");
            for (String word : FOREIGN) {
                due.is("line " + (i + 1) + " has " + word, code.contains(word) ? 1 : 0, 0);
            }
            if (code.matches("( {4}| {8})\\S.*\\) .*\\{") && !code.contains(" class ")) {
                begun = i;
            }
            if (begun >= 0 && code.matches("( {4}| {8})\\}")) {
                due.is("the method at line " + (begun + 1) + " is long", i - begun > 60 ? 1 : 0, 0);
                begun = -1;
            }
        }
    }
}

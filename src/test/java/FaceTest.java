import java.lang.reflect.Constructor;
import java.lang.reflect.Field;
import java.lang.reflect.Method;
import java.lang.reflect.Modifier;
import java.nio.file.Files;
import java.nio.file.Path;
import java.util.Arrays;
import java.util.List;
import java.util.NoSuchElementException;
import java.util.Set;
import java.util.TreeSet;

/** The public face, and rules of LANGUAGE.md that can be seen by reflection or in the text. */
public final class FaceTest {
    private static final String FACE = "feed(int,int,int,int,int)int end(int)boolean downs()int fault()int "
        + "person(int,int)int figure(int,int)int point(int,int)int cell(int,int,int)int now(int)int "
        + "say(int,int,int)int kick(int,int)int rest(int)int hours(int)int undo()int could(int,int)int "
        + "way(int,int)int wayAt(int)int both(int,int,int)int sees(int)int undoes(int)int undoesAt(int)int "
        + "tracks()int tracksAt(int)int tells()int least()int mean(int)int slip(int)int byteAt(int)int "
        + "drawn(int,int)int odds(int,int,int,int)int book(int)int told(int)int sentence()int said(int)int "
        + "image(int)boolean restore(int)boolean count(int)int";

    public static void main(String[] args) throws Exception {
        face();
        throwing();
        classesInside();
        text();
        Check.finish("FaceTest");
    }

    private static void is(String what, boolean so) {
        Check.due(what, so, true);
    }

    private static void face() {
        Class<?> c = CartTurns.class;
        is("public and final", Modifier.isPublic(c.getModifiers()) && Modifier.isFinal(c.getModifiers()));
        Set<String> methods = new TreeSet<>();
        for (Method m : c.getDeclaredMethods()) {
            if (!Modifier.isPrivate(m.getModifiers())) {
                is(m + " is public", Modifier.isPublic(m.getModifiers()));
                methods.add(m.getName() + "(" + String.join(",", names(m.getParameterTypes())) + ")" + m.getReturnType());
            }
        }
        Set<String> due = new TreeSet<>(Arrays.asList(FACE.split(" ")));
        is("the methods are the document's: " + methods, methods.equals(due));
        for (Field f : c.getDeclaredFields()) {
            is(f + " is private, or NONE", Modifier.isPrivate(f.getModifiers()) || f.getName().equals("NONE"));
            is(f + " is final, if it is static", !Modifier.isStatic(f.getModifiers()) || Modifier.isFinal(f.getModifiers()));
        }
        Check.due("NONE", CartTurns.NONE, -1);
        Constructor<?>[] made = c.getDeclaredConstructors();
        is("one constructor", made.length == 1 && Modifier.isPublic(made[0].getModifiers())
            && made[0].getParameterCount() == 0);
    }

    private static List<String> names(Class<?>[] types) {
        return Arrays.stream(types).map(Class::getName).toList();
    }

    private static void throwing() {
        for (Method m : CartTurns.class.getDeclaredMethods()) {
            boolean tells = m.getName().equals("person") || m.getName().equals("mean");
            Class<?>[] due = tells ? new Class<?>[] {NoSuchElementException.class} : new Class<?>[0];
            is(m + " tells what it throws", Arrays.equals(m.getExceptionTypes(), due));
        }
    }

    private static void classesInside() {
        Set<String> open = new TreeSet<>();
        for (String m : FACE.split(" ")) {
            open.add(m.substring(0, m.indexOf('(')));
        }
        Class<?>[] inside = CartTurns.class.getDeclaredClasses();
        is("at most twelve classes", inside.length + 1 <= 12);
        for (Class<?> c : inside) {
            is(c + " is private and static", Modifier.isPrivate(c.getModifiers()) && Modifier.isStatic(c.getModifiers()));
            int own = 0;
            for (Field f : c.getDeclaredFields()) {
                is(f + " is not static", !Modifier.isStatic(f.getModifiers()));
                own++;
            }
            is(c + " has at most twenty fields", own <= 20);
            noneNamed(c, open);
        }
        for (Method m : CartTurns.class.getDeclaredMethods()) {
            is(m + " has a name of its own", !Modifier.isPrivate(m.getModifiers()) || !open.contains(m.getName()));
        }
    }

    private static void noneNamed(Class<?> c, Set<String> open) {
        for (Method m : c.getDeclaredMethods()) {
            is(m + " has a name of its own", !open.contains(m.getName()));
            is(m + " takes at most seven", m.getParameterCount() <= 7);
        }
    }

    private static void text() throws Exception {
        List<String> lines = Files.readAllLines(Path.of("src/main/java/CartTurns.java"));
        int begun = 0;
        for (int k = 0; k < lines.size(); k++) {
            String line = lines.get(k);
            String code = line.replaceAll("\"[^\"]*\"", "\"\"").replaceAll("//.*|/\\*.*", "");
            is("only signs 1 to 127 in line " + (k + 1), line.chars().allMatch(s -> s < 128));
            is("nothing ruled out in line " + (k + 1) + ": " + line, !code.matches(".*(->|::|\\bfinally\\b|\\bassert\\b"
                + "|\\bsynchronized\\b|\\btry\\b|\\bcatch\\b|\\bstatic \\{|\"\" \\+|\\+ \"\"|Exact\\(|\\.format\\(|System\\.(out|nano|current)).*"));
            if (code.matches("    (    )?(public|private|static|final|void|int|boolean|long|[A-Z])[^;=]*\\{") && code.contains("(")) {
                begun = k;
            }
            if (code.matches("    (    )?\\}") && begun > 0) {
                is("the method that ends in line " + (k + 1) + " is short", k - begun < 60 || code.startsWith("    }"));
            }
        }
        is("imports", lines.stream().filter(s -> s.startsWith("import")).toList()
            .equals(List.of("import java.util.Arrays;", "import java.util.NoSuchElementException;")));
    }
}

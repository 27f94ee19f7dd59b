import java.io.IOException;
import java.lang.reflect.Constructor;
import java.lang.reflect.Field;
import java.lang.reflect.Method;
import java.lang.reflect.Modifier;
import java.nio.file.Files;
import java.nio.file.Path;
import java.util.Set;
import java.util.TreeSet;
import java.util.regex.Pattern;

/** The public face, and the rules of LANGUAGE.md that can be seen without reading. */
public final class FaceTest {
    private static final Set<String> METHODS = Set.of(
        "int term(int,int,int,int,long)", "int node()", "int arc(int,int,long)", "int put(int,int,long)",
        "int wake(int,boolean)", "int act(int,int)", "int fold(int)", "int run(int,int)", "int undo()",
        "int failed(int)", "long ask(int,int,int)", "int why()", "long state(int,int)", "long whole()",
        "int awake(int)", "int along(int)", "long message(int)", "int count(int)");

    public static void main(String[] args) throws IOException {
        members();
        words(Files.readString(Path.of("src/main/java/WalkedRounds.java")));
        Due.end();
    }

    private static void members() {
        Class<WalkedRounds> c = WalkedRounds.class;
        Due.holds("public and final", Modifier.isPublic(c.getModifiers()) && Modifier.isFinal(c.getModifiers()));
        Due.is("NONE", WalkedRounds.NONE, -1);
        Due.is("UNKNOWN", WalkedRounds.UNKNOWN, -101);
        Due.is("OUTSIDE", WalkedRounds.OUTSIDE, -102);
        Due.is("FULL_UP", WalkedRounds.FULL_UP, -103);
        Constructor<?>[] made = c.getDeclaredConstructors();
        Due.is("constructors", made.length, 1);
        Due.is("its parameters", made[0].getParameterCount(), 0);
        Set<String> seen = new TreeSet<>();
        Set<String> names = new TreeSet<>();
        for (Method m : c.getDeclaredMethods()) {
            if (Modifier.isPrivate(m.getModifiers())) continue;
            seen.add(shape(m));
            names.add(m.getName());
        }
        Due.holds("the methods " + seen, seen.equals(METHODS));
        for (Method m : c.getDeclaredMethods()) {
            if (!Modifier.isPrivate(m.getModifiers())) continue;
            Due.holds("another name than " + m.getName(), !names.contains(m.getName()));
        }
        Set<String> open = Set.of("NONE", "UNKNOWN", "OUTSIDE", "FULL_UP");
        for (Field f : c.getDeclaredFields()) {
            boolean hidden = Modifier.isPrivate(f.getModifiers());
            Due.holds("field " + f.getName(), hidden != open.contains(f.getName()));
        }
        Class<?>[] inside = c.getDeclaredClasses();
        Due.holds("at most twelve classes", inside.length < 12);
        for (Class<?> k : inside) insideOne(k, names);
    }

    private static void insideOne(Class<?> k, Set<String> names) {
        Due.holds("static " + k, Modifier.isStatic(k.getModifiers()) && !Modifier.isPublic(k.getModifiers()));
        Due.holds("at most twenty fields in " + k, k.getDeclaredFields().length <= 20);
        for (Method m : k.getDeclaredMethods()) {
            Due.holds("another name than " + m.getName() + " in " + k, !names.contains(m.getName()));
            Due.holds("at most seven parameters", m.getParameterCount() <= 7);
        }
    }

    private static String shape(Method m) {
        StringBuilder s = new StringBuilder(m.getReturnType().toString()).append(' ').append(m.getName()).append('(');
        String comma = "";
        for (Class<?> p : m.getParameterTypes()) {
            s.append(comma).append(p);
            comma = ",";
        }
        return s.append(')').toString();
    }

    private static void words(String source) {
        String code = source.replaceAll("(?s)/\\*.*?\\*/", "").replaceAll("//[^\n]*", "");
        String[] ruledOut = {"\\bthrow", "\\btry\\b", "\\bcatch\\b", "\\bsynchronized\\b", "\\bassert\\b", "->", "::",
            "Exact\\b", "\\bimport\\s+(?!java\\.util\\.(ArrayList|List|Arrays|Iterator);)", "\\bpackage\\b",
            "\\bnew\\s+\\w+\\([^)]*\\)\\s*\\{", "\\bint\\s+hashCode\\b", "\\bString\\s+toString\\b",
            "\\bboolean\\s+equals\\b", "\\bstatic\\s*\\{", "\\bprotected\\b", "\\bThread\\b", "\\bRandom\\b",
            "\\bSystem\\.(?!arraycopy\\b)"};
        for (String word : ruledOut) Due.holds("no " + word, !Pattern.compile(word).matcher(code).find());
    }
}

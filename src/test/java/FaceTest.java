import java.io.IOException;
import java.lang.reflect.Constructor;
import java.lang.reflect.Field;
import java.lang.reflect.Method;
import java.lang.reflect.Modifier;
import java.nio.file.Files;
import java.nio.file.Path;
import java.util.Set;
import java.util.TreeSet;

/** The face that the document tells, and what LANGUAGE.md keeps out of the source. */
public final class FaceTest {
    private static final Check check = new Check();
    private static final String[] FACE = {
        "int feed(int)", "int end(int)", "int text()", "int fault()", "int rule(int)", "int digger(int,int)",
        "int rock(int)", "int word(int,int)", "int alter(int,int,int)", "int stone(int,boolean)", "int tell(int,int,int)",
        "int hush(int)", "int dig(int)", "int runs(int,int)", "int ahead(int,int)", "int reaches(int,int)", "int meet(int,int)",
        "int ring(int)", "int aim(int,int,int,int)", "int words(int,int)", "int spread(int,int)", "int block(int,int)",
        "long luck(int,int,int,int)", "long mean(int,int,int)", "int see(int,int,int)", "int forget(int)", "int aims(int,int)",
        "int kinds(int)", "int look(int,int)", "int drift(int,int,int)", "int keep(int)", "int back(int)", "int sheet(int,int,int)",
        "int lay(int,int,int)", "int read(int,int,int,int)", "int torn()", "int count(int)"};

    public static void main(String[] args) throws IOException {
        members();
        source();
        check.finish();
    }

    private static void members() {
        Class<?> c = AimTunnel.class;
        check.holds("the class is public and final", Modifier.isPublic(c.getModifiers()) && Modifier.isFinal(c.getModifiers()));
        Set<String> due = new TreeSet<>(Set.of(FACE));
        Set<String> names = new TreeSet<>();
        Set<String> found = new TreeSet<>();
        for (Method m : c.getDeclaredMethods()) {
            if (Modifier.isPublic(m.getModifiers())) {
                found.add(signature(m));
                names.add(m.getName());
            }
        }
        check.holds("the face is as told: " + found, found.equals(due));
        for (Method m : c.getDeclaredMethods()) {
            if (!Modifier.isPublic(m.getModifiers())) {
                check.holds(m + " is private", Modifier.isPrivate(m.getModifiers()));
                check.holds(m + " has a name of its own", !names.contains(m.getName()));
            }
        }
        Set<String> constants = new TreeSet<>();
        for (Field f : c.getDeclaredFields()) {
            if (Modifier.isPublic(f.getModifiers())) {
                constants.add(f.getName());
            } else {
                check.holds(f + " is private", Modifier.isPrivate(f.getModifiers()));
            }
            check.holds(f + " is final, if static", !Modifier.isStatic(f.getModifiers()) || Modifier.isFinal(f.getModifiers()));
        }
        check.holds("the constants are as told: " + constants, constants.equals(Set.of("BAD", "STATE", "FULL", "NONE")));
        check.due("BAD", AimTunnel.BAD, -1);
        check.due("STATE", AimTunnel.STATE, -2);
        check.due("FULL", AimTunnel.FULL, -3);
        check.due("NONE", AimTunnel.NONE, -4);
        Constructor<?>[] makers = c.getDeclaredConstructors();
        check.due("constructors", makers.length, 1);
        check.holds("it takes nothing", makers[0].getParameterCount() == 0 && Modifier.isPublic(makers[0].getModifiers()));
        for (Class<?> inside : c.getDeclaredClasses()) {
            check.holds(inside + " is static", Modifier.isStatic(inside.getModifiers()));
            for (Method m : inside.getDeclaredMethods()) {
                check.holds(m + " has a name of its own", !names.contains(m.getName()));
            }
        }
    }

    private static String signature(Method m) {
        StringBuilder b = new StringBuilder(m.getReturnType().getName()).append(' ').append(m.getName()).append('(');
        for (int i = 0; i < m.getParameterCount(); i++) {
            b.append(i == 0 ? "" : ",").append(m.getParameterTypes()[i].getName());
        }
        return b.append(')').toString();
    }

    private static void source() throws IOException {
        String all = Files.readString(Path.of("src/main/java/AimTunnel.java"));
        String code = all.replaceAll("(?s)/\\*.*?\\*/", " ").replaceAll("//[^\n]*", " ");
        String[] out = {"throw", "throws", "try", "catch", "synchronized", "assert", "import", "package", "protected",
            "instanceof", "double", "float", "Thread", "Random", "goto"};
        for (String word : out) {
            check.holds("no " + word, !code.matches("(?s).*\\b" + word + "\\b.*"));
        }
        check.holds("no lambda", !code.contains("->"));
        check.holds("no method reference", !code.contains("::"));
        check.holds("no loop without an end", !code.matches("(?s).*while\\s*\\(\\s*true.*") && !code.contains("for (;;)"));
        check.holds("objects are made by constructors alone", !code.matches("(?s).*\\n        +(?!final |private )[^\\n]*\\bnew\\b.*"));
        for (int i = 0; i < all.length(); i++) {
            if (all.charAt(i) > 126 || all.charAt(i) < 32 && all.charAt(i) != '\n') {
                check.holds("plain signs alone, at " + i, false);
            }
        }
    }
}

import java.io.IOException;
import java.lang.reflect.Field;
import java.lang.reflect.Method;
import java.lang.reflect.Modifier;
import java.nio.file.Files;
import java.nio.file.Path;
import java.util.ArrayList;
import java.util.Arrays;
import java.util.List;
import java.util.Set;
import java.util.TreeSet;
import java.util.regex.Matcher;
import java.util.regex.Pattern;

/** What can be looked up of LANGUAGE.md: the face, the classes, and words that are not to stand in the file. */
public final class LanguageTest {
    private static final Due due = new Due("LanguageTest");
    private static final String FACE = "feed(1) end(1) text(0) fault(0) rule(1) one(2) thing(2) rota(1) turn(2) work(2) "
            + "telling(2) alter(3) paint(2) shift(2) assign(4) change(3) tell(4) drop(2) sees(1) belief(4) right(3) "
            + "wrong(2) done(1) best(1) swap(1) give(1) mend(1) luck(3) mean(2) see(4) forget(1) may(1) ask(2) drift(3) "
            + "keep(1) back(1) sheet(3) lay(3) read(4) torn(0) count(1)";

    public static void main(String[] args) throws IOException {
        face();
        for (Class<?> c : classes()) {
            members(c);
        }
        due.is("classes within some twelve", classes().size() <= 12 ? 1 : 0, 1);
        words();
        due.close();
    }

    private static List<Class<?>> classes() {
        List<Class<?>> all = new ArrayList<>();
        all.add(EyeRota.class);
        all.addAll(Arrays.asList(EyeRota.class.getDeclaredClasses()));
        return all;
    }

    private static void face() {
        due.is("public and final", EyeRota.class.getModifiers(), Modifier.PUBLIC | Modifier.FINAL);
        due.is("constructors", EyeRota.class.getDeclaredConstructors().length, 1);
        Set<String> want = new TreeSet<>(Arrays.asList(FACE.split(" ")));
        Set<String> got = new TreeSet<>();
        for (Method m : EyeRota.class.getDeclaredMethods()) {
            boolean isOpen = Modifier.isPublic(m.getModifiers());
            due.is(m.getName() + " is public or private", isOpen || Modifier.isPrivate(m.getModifiers()) ? 1 : 0, 1);
            if (isOpen) {
                got.add(m.getName() + "(" + m.getParameterCount() + ")");
                boolean isLong = m.getName().equals("luck") || m.getName().equals("mean");
                due.is(m.getName() + " answers", m.getReturnType() == (isLong ? long.class : int.class) ? 1 : 0, 1);
            }
        }
        due.is("the face is the document's: " + got, got.equals(want) ? 1 : 0, 1);
        due.is("BAD", EyeRota.BAD, -1);
        due.is("STATE", EyeRota.STATE, -2);
        due.is("FULL", EyeRota.FULL, -3);
        due.is("NONE", EyeRota.NONE, -4);
        Set<String> open = new TreeSet<>();
        for (Field f : EyeRota.class.getDeclaredFields()) {
            if (!Modifier.isPrivate(f.getModifiers())) {
                open.add(f.getName());
            }
        }
        due.is("fields that are open: " + open, open.equals(Set.of("BAD", "STATE", "FULL", "NONE")) ? 1 : 0, 1);
    }

    private static void members(Class<?> c) {
        String name = c.getSimpleName();
        Set<String> faceNames = new TreeSet<>(Arrays.asList(FACE.replaceAll("\\(.\\)", "").split(" ")));
        int fields = 0;
        for (Field f : c.getDeclaredFields()) {
            boolean isStatic = Modifier.isStatic(f.getModifiers());
            fields += isStatic ? 0 : 1;
            due.is(name + "." + f.getName(), isStatic && !Modifier.isFinal(f.getModifiers()) ? 1 : 0, 0);
        }
        due.is("fields of " + name + " within twenty", fields <= 20 ? 1 : 0, 1);
        for (Method m : c.getDeclaredMethods()) {
            boolean isFace = c == EyeRota.class && Modifier.isPublic(m.getModifiers());
            due.is(name + "." + m.getName() + " has a name of the face", !isFace && faceNames.contains(m.getName()) ? 1 : 0, 0);
            due.is(name + "." + m.getName() + " takes seven at most", m.getParameterCount() <= 7 ? 1 : 0, 1);
        }
        due.is(name + " is static", c == EyeRota.class || Modifier.isStatic(c.getModifiers()) ? 1 : 0, 1);
        due.is(name + " has no class inside", c == EyeRota.class ? 0 : c.getDeclaredClasses().length, 0);
    }

    private static void words() throws IOException {
        String source = Files.readString(Path.of(System.getProperty("eyerota.source", "src/main/java/EyeRota.java")));
        String code = source.replaceAll("(?s)/\\*.*?\\*/", "").replaceAll("//[^\n]*", "");
        String[] forbidden = {"\\bthrow\\b", "\\btry\\b", "\\bcatch\\b", "\\bsynchronized\\b", "\\bassert\\b", "->", "::",
            "\\bimport\\b(?! java\\.util\\.(Arrays|ArrayList|List|Iterator);)", "\\bpackage\\b", "\\bhashCode\\b",
            "\\btoString\\b", "\\w+Exact\\b", "\"\\s*\\+", "\\+\\s*\"", "\\bSystem\\.(?!arraycopy)", "\\bThread\\b",
            "\\bRandom\\b", "\\bObject\\b", "static\\s*\\{", "\\[\\]\\[\\]\\[\\]"};
        for (String pattern : forbidden) {
            Matcher found = Pattern.compile(pattern).matcher(code);
            due.is("the file has " + pattern, found.find() ? 1 : 0, 0);
        }
        for (char c : source.toCharArray()) {
            due.is("a sign of the file is plain", c < 128 ? 1 : 0, 1);
        }
        lengths(source);
    }

    private static void lengths(String source) {
        int start = 0;
        String[] lines = source.split("\n");
        for (int i = 0; i < lines.length; i++) {
            if (lines[i].matches(" {4,8}[^ }].*\\) \\{")) {
                start = i;
            }
            if (lines[i].matches(" {4,8}}")) {
                due.is("a method of some sixty lines, ending in line " + (i + 1), i - start <= 60 ? 1 : 0, 1);
                start = i;
            }
        }
    }
}

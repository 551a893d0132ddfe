import java.io.IOException;
import java.lang.reflect.Constructor;
import java.lang.reflect.Field;
import java.lang.reflect.Method;
import java.lang.reflect.Modifier;
import java.nio.file.Files;
import java.nio.file.Path;
import java.util.Set;
import java.util.TreeSet;

/** The public face of the document, and those rules of LANGUAGE.md that can be looked up in the source. */
public final class FaceTest {
    private static final String[] FACE = {"int feed(int,int,int,int,int)", "boolean end(int)", "int hall()", "int fault(int)",
        "int has(int)", "int scale()", "int letter(int,int,int)", "int sits(int,int)", "int seat(int)", "int mute(int,int)",
        "int noise(int,int)", "int kept(int,int)", "long mean(int)", "int odds(int)", "int hire(int,int,int,int)",
        "int change(int,int)", "long points(int,int)", "int fell(int,int)", "int asked(int,int)", "int loudest(int)",
        "int minutes(int)", "boolean point(int)", "boolean move(int,int)", "boolean take(int,int,int)", "boolean dismiss(int)",
        "boolean undo()", "boolean seed(int)", "long ask()", "int image()", "int octet(int)", "boolean on()", "int status(int)"};

    private FaceTest() {
    }

    public static void main(String[] args) throws IOException {
        face();
        source();
        Due.end();
    }

    private static void face() {
        Class<?> it = SilentCourt.class;
        Set<String> due = new TreeSet<>(Set.of(FACE));
        Set<String> names = new TreeSet<>();
        for (Method method : it.getDeclaredMethods()) {
            if (Modifier.isPublic(method.getModifiers())) {
                names.add(method.getName());
                String[] whole = method.toString().split(" ");
                String told = method.getReturnType() + " " + whole[whole.length - 1].replace("SilentCourt.", "");
                Due.is("the document has " + told, due.remove(told), true);
            }
        }
        Due.is("all of the face is there " + due, due.size(), 0);
        inside(it, names);
        for (Class<?> nested : it.getDeclaredClasses()) {
            Due.is(nested + " is static", Modifier.isStatic(nested.getModifiers()), true);
            inside(nested, names);
        }
        Due.is("final", Modifier.isFinal(it.getModifiers()) && Modifier.isPublic(it.getModifiers()), true);
        for (Field field : it.getDeclaredFields()) {
            boolean constant = field.getName().equals("NONE") || field.getName().equals("NOTHING");
            Due.is(field + " is public", Modifier.isPublic(field.getModifiers()), constant);
            Due.is(field + " is private", Modifier.isPrivate(field.getModifiers()), !constant);
        }
        Constructor<?>[] makers = it.getDeclaredConstructors();
        Due.is("constructors", makers.length, 1);
        Due.is("constructor", Modifier.isPublic(makers[0].getModifiers()) && makers[0].getParameterCount() == 0, true);
        Due.is("NONE", SilentCourt.NONE, -1);
        Due.is("NOTHING", SilentCourt.NOTHING, -1000000000000000L);
    }

    private static void inside(Class<?> it, Set<String> names) {
        for (Method method : it.getDeclaredMethods()) {
            boolean open = it == SilentCourt.class && Modifier.isPublic(method.getModifiers());
            Due.is(method + " bears a name of its own", open || !names.contains(method.getName()), true);
            Due.is(method + " takes seven at most", method.getParameterCount() <= 7, true);
            Due.is(method + " is private or within", open || it != SilentCourt.class || Modifier.isPrivate(method.getModifiers()), true);
        }
    }

    private static void source() throws IOException {
        String text = Files.readString(Path.of("src/main/java/SilentCourt.java"));
        for (char c : text.toCharArray()) {
            Due.is("sign " + (int) c, c < 128, true);
        }
        String bare = text.replaceAll("(?s)/\\*.*?\\*/", "").replaceAll("//[^\n]*", "");
        String[] never = {"\\bthrow\\b", "\\btry\\b", "\\bcatch\\b", "\\bsynchronized\\b", "\\bassert\\b", "->", "::", "\\bprotected\\b",
            "\\bpackage\\b", "\\bordinal\\b", "\\bhashCode\\b", "\\btoString\\b", "Exact\\b", "\\bstatic \\{", "\" \\+", "\\+ \""};
        for (String one : never) {
            Due.is("never " + one, bare.split(one, -1).length, 1);
        }
        String[] imports = bare.split("\nimport ", -1);
        Due.is("one import", bare.startsWith("import java.util.Arrays;") ? imports.length : 0, 1);
    }
}

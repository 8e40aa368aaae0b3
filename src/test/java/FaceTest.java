import java.lang.reflect.Constructor;
import java.lang.reflect.Field;
import java.lang.reflect.Method;
import java.lang.reflect.Modifier;
import java.nio.file.Files;
import java.nio.file.Path;
import java.nio.file.Paths;
import java.util.Arrays;
import java.util.Set;
import java.util.TreeSet;

/** The public face, and what of LANGUAGE.md can be seen from the class and from its text. */
public final class FaceTest {
    private static final String[] FACE = {
        "int feed(int,int,int,int,int)", "boolean end(int)", "int river()", "int fault()", "int reach(int,int)!",
        "int guild(int,int)!", "int user(int,int)!", "int flow(int)!", "int order()", "int ring(int,int,int)", "int undo()",
        "int bell(int,int)!", "int at(int,int,int,int)", "int passed(int,int)", "int sum(int,int)", "int fine(int,int)",
        "int harmed(int,int)", "int harm()", "int blame(int,int)", "int duty(int)", "int pulse(int,int,int,int)", "int days(int)",
        "int dayOf(int)", "int exchange()", "int exchanges()", "int late(int)", "int see(int,int,int)", "int night()", "int led(int)",
        "int dam(int,int)", "int rain(int,int)", "int sentence()", "int said(int)", "boolean image(int)", "boolean restore(int)",
        "int count(int)"};
    private static final String[] NOT_USED = {"->", "::", "finally", "synchronized", "assert ", "catch", "static {", "Exact(", "protected ",
        "\tpublic", "System.out", "currentTimeMillis", "nanoTime", "Random", "Object[]", "var ", "instanceof"};

    public static void main(String[] args) throws Exception {
        face();
        inside();
        text();
        Check.close();
    }

    private static void face() {
        Check.due("NONE", -1, DyerBells.NONE);
        Check.due("the class is final", true, Modifier.isFinal(DyerBells.class.getModifiers()));
        Set<String> due = new TreeSet<>(Arrays.asList(FACE));
        Set<String> got = new TreeSet<>();
        Set<String> names = new TreeSet<>();
        for (Method m : DyerBells.class.getDeclaredMethods()) {
            if (Modifier.isPublic(m.getModifiers())) {
                got.add(told(m));
                names.add(m.getName());
            }
        }
        report("missing: ", due, got);
        report("too much: ", got, due);
        for (Method m : DyerBells.class.getDeclaredMethods()) {
            boolean isPrivate = Modifier.isPrivate(m.getModifiers());
            Check.due(m.getName() + " is public or private", true, isPrivate || Modifier.isPublic(m.getModifiers()));
            Check.due(m.getName() + " has a name of its own", false, isPrivate && names.contains(m.getName()));
        }
        for (Class<?> c : DyerBells.class.getDeclaredClasses()) {
            for (Method m : c.getDeclaredMethods()) {
                Check.due(c.getName() + "." + m.getName() + " has a name of its own", false, names.contains(m.getName()));
            }
        }
        for (Field f : DyerBells.class.getDeclaredFields()) {
            boolean isFace = f.getName().equals("NONE");
            Check.due(f.getName() + " is private", !isFace, Modifier.isPrivate(f.getModifiers()));
        }
        Constructor<?>[] made = DyerBells.class.getDeclaredConstructors();
        Check.due("constructors", 1, made.length);
        Check.due("its parameters", 0, made[0].getParameterCount());
    }

    private static String told(Method m) {
        StringBuilder types = new StringBuilder();
        for (Class<?> type : m.getParameterTypes()) {
            types.append(types.length() == 0 ? "" : ",").append(type.getName());
        }
        return m.getReturnType().getName() + " " + m.getName() + "(" + types + ")" + (m.getExceptionTypes().length == 1 ? "!" : "");
    }

    private static void report(String what, Set<String> all, Set<String> but) {
        for (String one : all) {
            Check.due(what + one, true, but.contains(one));
        }
    }

    private static void inside() {
        Class<?>[] classes = DyerBells.class.getDeclaredClasses();
        Check.due("twelve classes at most", true, classes.length + 1 <= 12);
        for (Class<?> c : classes) {
            Check.due(c.getName() + " is static", true, Modifier.isStatic(c.getModifiers()));
            int fields = 0;
            for (Field f : c.getDeclaredFields()) {
                boolean isStatic = Modifier.isStatic(f.getModifiers());
                fields += isStatic ? 0 : 1;
                Check.due(f + " is final, if it is static", true, !isStatic || Modifier.isFinal(f.getModifiers()));
            }
            Check.due(c.getName() + " has twenty fields at most", true, fields <= 20);
            for (Method m : c.getDeclaredMethods()) {
                Check.due(m + " has seven parameters at most", true, m.getParameterCount() <= 7);
            }
        }
    }

    private static void text() throws Exception {
        Path path = Paths.get("src/main/java/DyerBells.java");
        String text = new String(Files.readAllBytes(path));
        for (String word : NOT_USED) {
            Check.due("'" + word + "' in the text", -1, text.indexOf(word));
        }
        Check.due("one import", text.indexOf("import "), text.lastIndexOf("import "));
        int from = 0;
        String[] lines = text.split("\n");
        for (int i = 0; i < lines.length; i++) {
            if (lines[i].matches(" +[a-zA-Z\\[\\] ]+\\(.*\\).*\\{") && !lines[i].matches(" +(if|for|while|switch|\\} else).*")) {
                from = i;
            }
            boolean ends = lines[i].matches(" {4}( {4})?\\}");
            Check.due("the method of line " + (from + 1) + " is short", true, !ends || i - from <= 60 || from == 0);
            from = ends ? i : from;
        }
    }
}

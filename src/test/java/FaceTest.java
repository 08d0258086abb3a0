import java.io.IOException;
import java.lang.management.ManagementFactory;
import java.lang.reflect.Field;
import java.lang.reflect.Method;
import java.lang.reflect.Modifier;
import java.nio.file.Files;
import java.nio.file.Path;
import java.util.Arrays;
import java.util.Set;
import java.util.TreeSet;
import java.util.regex.Pattern;

/** The public face, the rules of the language that can be read off the source, and the room a run takes. */
public final class FaceTest {
    private static final Set<String> METHODS = new TreeSet<>(Arrays.asList(
        "int gate(int,int,int)", "int guests(int)", "int stock(int,int)", "int pass(int)", "int ofGate(int)",
        "long busy(int)", "int ofSender(int,int)", "int sample(int,int,int)", "int best(int,int)",
        "int letter(int,int,int)", "int phase(int,int)", "int model(int,int)", "int turn(int,int,int)", "int many(int)"));
    private static final Set<String> FIELDS = new TreeSet<>(Arrays.asList(
        "int UNKNOWN", "int OUTSIDE", "int FULL", "int NONE", "long LOST"));

    public static void main(String[] args) throws IOException {
        constants();
        members();
        source();
        room();
        Due.end();
    }

    private static void constants() {
        Due.is("UNKNOWN", ModelSender.UNKNOWN, -1);
        Due.is("OUTSIDE", ModelSender.OUTSIDE, -2);
        Due.is("FULL", ModelSender.FULL, -4);
        Due.is("NONE", ModelSender.NONE, -9);
        Due.is("LOST", ModelSender.LOST, Long.MIN_VALUE);
    }

    private static void members() {
        Class<?> c = ModelSender.class;
        Due.is("public and final", c.getModifiers(), Modifier.PUBLIC | Modifier.FINAL);
        yes("no class above it", c.getSuperclass() == Object.class && c.getInterfaces().length == 0);
        Set<String> methods = new TreeSet<>();
        Set<String> names = new TreeSet<>();
        for (Method m : c.getDeclaredMethods()) {
            if (Modifier.isPrivate(m.getModifiers()) || m.isSynthetic()) continue;
            methods.add(m.toString());
            names.add(m.getName());
        }
        for (Method m : c.getDeclaredMethods()) {
            if (Modifier.isPrivate(m.getModifiers())) yes("no name of the face: " + m, !names.contains(m.getName()));
        }
        yes("methods are those of the face: " + methods, methods.equals(whole("public ", METHODS)));
        Set<String> fields = new TreeSet<>();
        for (Field f : c.getDeclaredFields()) {
            if (Modifier.isStatic(f.getModifiers())) yes("final " + f, Modifier.isFinal(f.getModifiers()));
            if (!Modifier.isPrivate(f.getModifiers())) fields.add(f.toString());
        }
        yes("fields are those of the face: " + fields, fields.equals(whole("public static final ", FIELDS)));
        yes("the constructor of the face alone: " + Arrays.toString(c.getDeclaredConstructors()),
            Arrays.toString(c.getDeclaredConstructors()).equals("[public ModelSender()]"));
        innerClasses(c, names);
    }

    /** As reflection tells a member: with its modifiers, and its class ahead of its name. */
    private static Set<String> whole(String modifiers, Set<String> members) {
        Set<String> all = new TreeSet<>();
        for (String member : members) all.add(modifiers + member.replace(" ", " ModelSender."));
        return all;
    }

    private static void innerClasses(Class<?> c, Set<String> names) {
        yes("twelve classes at most", c.getDeclaredClasses().length <= 11);
        for (Class<?> inner : c.getDeclaredClasses()) {
            yes("static " + inner, Modifier.isStatic(inner.getModifiers()));
            yes("private or package-visible " + inner, (inner.getModifiers() & (Modifier.PUBLIC | Modifier.PROTECTED)) == 0);
            yes("twenty fields at most in " + inner, inner.getDeclaredFields().length <= 20);
            for (Field f : inner.getDeclaredFields()) yes("no static state: " + f, !Modifier.isStatic(f.getModifiers()));
            for (Method m : inner.getDeclaredMethods()) {
                yes("no name of the face: " + m, !names.contains(m.getName()));
                yes("seven parameters at most: " + m, m.getParameterCount() <= 7);
            }
        }
    }

    private static void source() throws IOException {
        String text = Files.readString(Path.of("src/main/java/ModelSender.java"));
        String code = text.replaceAll("(?s)/\\*.*?\\*/", "").replaceAll("//.*", "");
        for (String word : "throw try catch synchronized assert import package".split(" ")) {
            yes("no word " + word, !Pattern.compile("\\b" + word + "\\b").matcher(code).find());
        }
        for (String sign : new String[] {"->", "::", "Exact("}) yes("no sign " + sign, !code.contains(sign));
    }

    /** What the dearest run makes; a run may make a new object with each of its calls, so each is to be small. */
    private static void room() {
        com.sun.management.ThreadMXBean threads = (com.sun.management.ThreadMXBean) ManagementFactory.getThreadMXBean();
        long id = Thread.currentThread().getId();
        new ModelSender().pass(1);
        long before = threads.getThreadAllocatedBytes(id);
        ModelSender x = new ModelSender();
        long made = threads.getThreadAllocatedBytes(id) - before;
        before = threads.getThreadAllocatedBytes(id);
        x.gate(1, 60, 200);
        for (int i = 0; i < 500; i++) {
            x.stock(i % 2, 4000);
            x.pass(2000);
        }
        long later = threads.getThreadAllocatedBytes(id) - before;
        yes("a new object takes " + made + " bytes", made < 40000);
        yes("500 times 2000 ticks take " + later + " bytes", later < 40000);
    }

    private static void yes(String what, boolean holds) {
        Due.is(what, holds ? 1 : 0, 1);
    }
}

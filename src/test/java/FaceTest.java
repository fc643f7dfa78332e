import java.io.IOException;
import java.lang.reflect.Constructor;
import java.lang.reflect.Field;
import java.lang.reflect.Method;
import java.lang.reflect.Modifier;
import java.nio.charset.StandardCharsets;
import java.nio.file.Files;
import java.nio.file.Path;
import java.util.ArrayList;
import java.util.List;
import java.util.TreeSet;

/** The public face of the document, and those rules of the language that a test can see. */
public final class FaceTest {
    private static final String[] FACE = {
        "int joint(int,int,int,int,int)", "int limits(int,int,int)", "int jog(int,int)", "int state(int)",
        "long tip(int)", "long sine(int)", "int box(int,int,int,int,int)", "int unbox(int)", "int teach(int)",
        "int pose(int,int)", "int plan(int,int)", "int along(int,int,int,int)", "int line(int,int,int)", "int clear()",
        "int script(int,int,boolean)", "int input(int,boolean)", "int run()", "int tick(int)", "int stop()",
        "int about(int)", "int at(int,int)", "long travel(int)", "int keep(int)", "int back(int)",
        "int replay(int,int)", "int count(int)", "long digest()",
    };
    private static final String[] NOT_IN_THE_LANGUAGE = {
        "package ", "import ", "catch", "try ", "finally", "throw", "synchronized", "assert", "->", "::", "static {",
        "Exact", "Double.", "Float.", "System.out", "System.exit", "System.nano", "System.current", "Random", "Thread",
        "getClass", "equals(", "hashCode", "toString", "record ", "var ",
    };

    public static void main(String[] args) throws IOException {
        theFaceIsAsTold();
        nothingElseIsSeen();
        theClassesInside();
        theWordsOfTheSource();
        callsMakeNothing();
        Check.finish();
    }

    private static String told(Method m) {
        StringBuilder b = new StringBuilder();
        b.append(m.getReturnType().getName()).append(' ').append(m.getName()).append('(');
        for (int i = 0; i < m.getParameterCount(); i++) {
            b.append(i == 0 ? "" : ",").append(m.getParameterTypes()[i].getName());
        }
        return b.append(')').toString();
    }

    private static void theFaceIsAsTold() {
        TreeSet<String> seen = new TreeSet<>();
        for (Method m : ArmPendant.class.getDeclaredMethods()) {
            if (Modifier.isPublic(m.getModifiers())) {
                seen.add(told(m));
                Check.due(told(m) + " is not static", !Modifier.isStatic(m.getModifiers()));
            }
        }
        for (String due : FACE) {
            Check.due(due + " is there", seen.remove(due));
        }
        Check.due("no other is there: " + seen, seen.isEmpty());
        Check.due("public and final", ArmPendant.class.getModifiers(), Modifier.PUBLIC | Modifier.FINAL);
        Constructor<?>[] made = ArmPendant.class.getDeclaredConstructors();
        Check.due("constructors", made.length, 1);
        Check.due("public", Modifier.isPublic(made[0].getModifiers()));
        Check.due("without parameters", made[0].getParameterCount(), 0);
    }

    private static void nothingElseIsSeen() {
        TreeSet<String> constants = new TreeSet<>(List.of("NONE", "BAD", "NO", "FULL"));
        for (Field f : ArmPendant.class.getDeclaredFields()) {
            if (Modifier.isPublic(f.getModifiers())) {
                Check.due(f.getName() + " is a constant of the face", constants.remove(f.getName()));
            } else {
                Check.due(f.getName() + " is private", Modifier.isPrivate(f.getModifiers()));
            }
            Check.due(f.getName() + " is final", Modifier.isFinal(f.getModifiers()));
        }
        Check.due("all constants are there", constants.isEmpty());
        for (Method m : ArmPendant.class.getDeclaredMethods()) {
            Check.due(m.getName() + " is private or public",
                    Modifier.isPrivate(m.getModifiers()) || Modifier.isPublic(m.getModifiers()));
        }
    }

    private static void theClassesInside() {
        TreeSet<String> names = new TreeSet<>();
        for (String due : FACE) {
            names.add(due.substring(due.indexOf(' ') + 1, due.indexOf('(')));
        }
        Class<?>[] inside = ArmPendant.class.getDeclaredClasses();
        Check.due("at most some twelve", inside.length <= 12);
        List<Class<?>> all = new ArrayList<>(List.of(inside));
        all.add(ArmPendant.class);
        for (Class<?> c : all) {
            int fields = 0;
            for (Field f : c.getDeclaredFields()) {
                fields += Modifier.isStatic(f.getModifiers()) ? 0 : 1;
            }
            Check.due(c + " has at most some twenty fields", fields <= 20);
            for (Method m : c.getDeclaredMethods()) {
                Check.due(m + " has at most seven parameters", m.getParameterCount() <= 7);
                Check.due(m + " has its own name",
                        c == ArmPendant.class && Modifier.isPublic(m.getModifiers()) || !names.contains(m.getName()));
            }
        }
        for (Class<?> c : inside) {
            Check.due(c + " is static", Modifier.isStatic(c.getModifiers()));
            Check.due(c + " is private", Modifier.isPrivate(c.getModifiers()));
        }
    }

    /** Run at the project's root, as .ci/run does. */
    private static void theWordsOfTheSource() throws IOException {
        String source = Files.readString(Path.of("src/main/java/ArmPendant.java"), StandardCharsets.US_ASCII);
        for (String word : NOT_IN_THE_LANGUAGE) {
            Check.due("the source holds no '" + word + "'", !source.contains(word));
        }
    }

    /** All calls of a run live in one room, so that only the constructor makes objects. */
    private static void callsMakeNothing() {
        com.sun.management.ThreadMXBean threads =
                (com.sun.management.ThreadMXBean) java.lang.management.ManagementFactory.getThreadMXBean();
        if (!threads.isThreadAllocatedMemorySupported()) {
            return;
        }
        ArmPendant x = new ArmPendant();
        askEachCall(x);
        long before = threads.getCurrentThreadAllocatedBytes();
        for (int i = 0; i < 2000; i++) {
            askEachCall(x);
        }
        long made = threads.getCurrentThreadAllocatedBytes() - before;
        Check.due("bytes made by 2000 rounds of calls, " + made + ", are next to none", made < 16000);
    }

    private static void askEachCall(ArmPendant x) {
        x.stop();
        x.clear();
        x.joint(1, 1, 50, 100, 7);
        x.limits(1, -9000, 9000);
        x.jog(1, 500);
        x.teach(1);
        x.jog(1, 0);
        x.box(0, -5000, 300, 0, 5000);
        x.unbox(0);
        x.pose(1, 1);
        x.plan(1, 50);
        x.along(1, 50, 3, 1);
        x.line(9, 1, 0);
        x.line(0, 1, 50);
        x.line(1, 2, 0);
        x.line(5, 3, 0);
        x.script(3, 1, true);
        x.input(1, false);
        x.run();
        x.tick(5);
        x.keep(0);
        x.tick(1);
        x.replay(0, 10);
        x.back(0);
        x.sine(123);
        x.travel(0);
        x.digest();
    }
}

import java.lang.management.ManagementFactory;
import java.lang.reflect.Method;
import java.lang.reflect.Modifier;
import java.nio.file.Files;
import java.nio.file.Path;
import java.util.Set;
import java.util.TreeSet;

/** The public face, some rules of LANGUAGE.md, and how much room an object and its calls take. */
public final class FaceTest {
    private static final Checks c = new Checks("FaceTest");
    private static final String[] FACE = {
        "int routine()", "int act(int,int,int,int,int)", "int at(int,int,int)", "int length(int)", "int pass(int,int)",
        "int best(int)", "int same(int,int)", "int known(int,int,int)", "long value(int,int,int)", "int live(int,int,int)",
        "int feed(long)", "int dry()", "int run(int,int)", "int outs()", "long out(int)", "int ran(int)",
        "long register(int)", "int clear()", "int pair(int,int,int,int)", "int claim(int,int,int,long)", "int of(int,int)",
        "long number(int,int)", "int judge(int,int)", "int where()", "int count(int)"};
    private static final String[] WORDS = {"import", "throw", "throws", "try", "catch", "synchronized", "assert",
        "Object", "protected", "double", "float", "System", "Thread", "Random", "equals", "hashCode", "toString"};

    public static void main(String[] args) throws Exception {
        face();
        words();
        names();
        room();
        c.finish();
    }

    private static void face() {
        c.due("final", Modifier.isFinal(PassCourt.class.getModifiers()) ? 1 : 0, 1);
        c.due("constructors", PassCourt.class.getDeclaredConstructors().length, 1);
        c.due("public constructors", PassCourt.class.getConstructors().length, 1);
        c.due("public fields", PassCourt.class.getFields().length, 0);
        Set<String> due = new TreeSet<>(Set.of(FACE));
        Set<String> seen = new TreeSet<>();
        for (Method m : PassCourt.class.getDeclaredMethods()) {
            if (!Modifier.isPrivate(m.getModifiers())) {
                StringBuilder text = new StringBuilder(m.getReturnType() + " " + m.getName() + "(");
                for (Class<?> type : m.getParameterTypes()) {
                    text.append(text.charAt(text.length() - 1) == '(' ? "" : ",").append(type);
                }
                seen.add(text.append(")").toString());
            }
        }
        if (!seen.equals(due)) {
            System.out.println("face is " + seen);
        }
        c.due("the face", seen.equals(due) ? 1 : 0, 1);
        c.due("classes", PassCourt.class.getDeclaredClasses().length <= 12 ? 1 : 0, 1);
        for (Class<?> inner : PassCourt.class.getDeclaredClasses()) {
            c.due(inner + " is static", Modifier.isStatic(inner.getModifiers()) ? 1 : 0, 1);
            c.due(inner + " has few fields", java.util.Arrays.stream(inner.getDeclaredFields())
                    .filter(f -> !Modifier.isStatic(f.getModifiers())).count() <= 20 ? 1 : 0, 1);
        }
    }

    private static void words() throws Exception {
        String code = Files.readString(Path.of("src/main/java/PassCourt.java"))
                .replaceAll("(?s)/\\*.*?\\*/", " ").replaceAll("//[^\n]*", " ");
        Set<String> used = new TreeSet<>(java.util.List.of(code.split("[^A-Za-z0-9_]+")));
        for (String word : WORDS) {
            c.due("the word " + word, used.contains(word) ? 1 : 0, 0);
        }
        c.due("lambdas and method references", code.contains("->") || code.contains("::") ? 1 : 0, 0);
    }

    private static void names() {
        Set<String> publicNames = new TreeSet<>();
        for (Method m : PassCourt.class.getMethods()) {
            publicNames.add(m.getName());
        }
        for (Method m : PassCourt.class.getDeclaredMethods()) {
            if (Modifier.isPrivate(m.getModifiers())) {
                c.due(m + " bears a public name", publicNames.contains(m.getName()) ? 1 : 0, 0);
            }
        }
        for (Class<?> inner : PassCourt.class.getDeclaredClasses()) {
            for (Method m : inner.getDeclaredMethods()) {
                c.due(m + " bears a public name", publicNames.contains(m.getName()) ? 1 : 0, 0);
                c.due(m + " takes at most seven", m.getParameterCount() <= 7 ? 1 : 0, 1);
            }
        }
    }

    /** Calls make nothing: all rows are made by the constructor. */
    private static void room() {
        var threads = (com.sun.management.ThreadMXBean) ManagementFactory.getThreadMXBean();
        long me = Thread.currentThread().getId();
        dearCalls(new PassCourt());
        long begin = threads.getThreadAllocatedBytes(me);
        PassCourt x = new PassCourt();
        long born = threads.getThreadAllocatedBytes(me);
        dearCalls(x);
        long end = threads.getThreadAllocatedBytes(me);
        c.due("bytes of a new object are few", born - begin < 200000 ? 1 : 0, 1);
        c.due("bytes that calls make are none to speak of", end - born < 20000 ? 1 : 0, 1);
    }

    private static void dearCalls(PassCourt x) {
        x.routine();
        for (int i = 0; i < 49; i++) {
            x.act(0, i % 3 == 0 ? 13 : 3, i % 8, i % 3 == 0 ? (i * 7) % 50 : i % 8, i % 3 == 0 ? 0 : 5);
        }
        x.act(0, 12, 0, 0, 0);
        // 51 calls so far and six in each round: an object is used for at most 512.
        for (int i = 0; i < 75; i++) {
            x.known(0, 50, 0);
            x.live(0, 0, 0);
            x.judge(0, x.pass(0, i % 4));
            x.best(0);
            x.run(0, 100);
        }
    }
}

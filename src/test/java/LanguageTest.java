import java.lang.management.ManagementFactory;
import java.lang.reflect.Constructor;
import java.lang.reflect.Field;
import java.lang.reflect.Method;
import java.lang.reflect.Modifier;
import java.nio.file.Files;
import java.nio.file.Path;
import java.util.List;
import java.util.TreeSet;
import java.util.regex.Matcher;
import java.util.regex.Pattern;

/** Those rules of ../shared/LANGUAGE.md that can be looked at from outside: the face, the words, the sizes, the room. */
public final class LanguageTest {
    private static final String FACE = "thing thingOf change remake iron board boardOf ends anew state feed rules wash on when creaseFor boardFor "
        + "fat least left piles best ith ways note bars game play report forget lone liar seed lot times prove row alterRow judge "
        + "sheet write item goAll wouldBe shelf taken act trace many keep again";
    private static int wrong = 0;

    private static void need(boolean so, String what) {
        if (!so) {
            wrong++;
            System.out.println(what);
        }
    }

    private static void face() {
        TreeSet<String> due = new TreeSet<>(List.of(FACE.split(" ")));
        TreeSet<String> found = new TreeSet<>();
        for (Method m : IronedFlat.class.getDeclaredMethods()) {
            if (m.isSynthetic()) continue;
            if (Modifier.isPublic(m.getModifiers())) {
                need(found.add(m.getName()), "two methods " + m.getName());
                need(m.getReturnType() == int.class, m.getName() + " doesn't answer an int");
            } else {
                need(Modifier.isPrivate(m.getModifiers()), m.getName() + " is neither public nor private");
                need(!due.contains(m.getName()), "a private method bears the name " + m.getName());
            }
        }
        need(found.equals(due), "the public methods are " + found);
        for (Constructor<?> c : IronedFlat.class.getConstructors()) need(c.getParameterCount() == 0, "a constructor with arguments");
        TreeSet<String> constants = new TreeSet<>();
        for (Field f : IronedFlat.class.getDeclaredFields()) {
            if (Modifier.isPublic(f.getModifiers())) constants.add(f.getName());
            else need(Modifier.isPrivate(f.getModifiers()), f.getName() + " is neither public nor private");
        }
        need(constants.equals(new TreeSet<>(List.of("BAD", "FULL", "NONE", "STATE"))), "the public constants are " + constants);
        need(Modifier.isFinal(IronedFlat.class.getModifiers()), "the class is not final");
    }

    private static void classesInside() {
        Class<?>[] inside = IronedFlat.class.getDeclaredClasses();
        need(inside.length < 12, "too many classes");
        TreeSet<String> face = new TreeSet<>(List.of(FACE.split(" ")));
        for (Class<?> c : inside) {
            need(Modifier.isStatic(c.getModifiers()), c + " is not static");
            need(!Modifier.isPublic(c.getModifiers()) && !Modifier.isProtected(c.getModifiers()), c + " can be seen");
            for (Method m : c.getDeclaredMethods()) {
                need(m.isSynthetic() || !face.contains(m.getName()), c + " has a method " + m.getName());
                need(m.getParameterCount() <= 7, m + " takes too much");
            }
            int fields = 0;
            for (Field f : c.getDeclaredFields()) {
                boolean isStatic = Modifier.isStatic(f.getModifiers());
                if (!isStatic) fields++;
                need(!isStatic || Modifier.isFinal(f.getModifiers()), f + " is static and not final");
            }
            need(fields <= 20, c + " has too many fields");
        }
    }

    private static void words() throws Exception {
        String source = Files.readString(Path.of("src/main/java/IronedFlat.java"));
        for (int i = 0; i < source.length(); i++) need(source.charAt(i) < 128, "a sign beyond 127 at " + i);
        String code = source.replaceAll("(?s)/\\*.*?\\*/", "").replaceAll("//[^\n]*", "").replaceAll("\"[^\"\n]*\"", "\"\"");
        String[] barred = {"throw", "throws", "try", "catch", "finally", "synchronized", "assert", "volatile", "native", "Object", "Exception",
            "hashCode", "getClass", "String toString\\(", "boolean equals\\(", "Random", "Thread", "System\\.(?!arraycopy)", "->", "::", "\\w+Exact", "package", "protected",
            "var", "Double", "Float", "Math\\.random", "import (?!java\\.util\\.(Arrays|ArrayList|List|Iterator);)", "Arrays\\.(?!fill|copyOf)", "static \\{", "@(?!Override)\\w+"};
        for (String b : barred) {
            Matcher m = Pattern.compile(b.matches("\\w+") ? "\\b" + b + "\\b" : b).matcher(code);
            need(!m.find(), "the source holds " + b);
        }
        need(!Pattern.compile("\"\"\\s*\\+|\\+\\s*\"\"").matcher(code).find(), "texts are joined by +");
    }

    private static void methodLengths() throws Exception {
        int start = -1;
        String indent = "";
        List<String> lines = Files.readAllLines(Path.of("src/main/java/IronedFlat.java"));
        for (int i = 0; i < lines.size(); i++) {
            Matcher m = Pattern.compile("^( {4}| {8})[a-zA-Z].*\\) \\{$").matcher(lines.get(i));
            if (start < 0 && m.find()) {
                start = i;
                indent = m.group(1);
            } else if (start >= 0 && lines.get(i).equals(indent + "}")) {
                need(i - start < 60, "the method at line " + (start + 1) + " is long");
                start = -1;
            }
        }
    }

    /** The dearest calls must make next to nothing, for a whole run lives in one room. */
    private static void room() {
        com.sun.management.ThreadMXBean bean = (com.sun.management.ThreadMXBean) ManagementFactory.getThreadMXBean();
        long before = bean.getThreadAllocatedBytes(Thread.currentThread().getId());
        IronedFlat x = new IronedFlat();
        long made = bean.getThreadAllocatedBytes(Thread.currentThread().getId()) - before;
        need(made < 100_000, "a new object takes " + made + " bytes");
        for (int k = 0; k < 6; k++) x.thing(1 + k % 5, 10 * k, k, k % 3);
        before = bean.getThreadAllocatedBytes(Thread.currentThread().getId());
        for (int i = 0; i < 40; i++) {
            x.best(4);
            x.ways(4);
            x.note(4, 63);
            x.play(4);
            x.times(40, 50);
            x.creaseFor(i % 6);
            x.lone(0);
            x.liar();
            x.prove(4);
            x.judge();
            x.keep();
            x.again();
        }
        made = bean.getThreadAllocatedBytes(Thread.currentThread().getId()) - before;
        need(made < 100_000, "480 dear calls take " + made + " bytes");
        before = bean.getThreadAllocatedBytes(Thread.currentThread().getId());
        IronedFlat y = new IronedFlat();
        for (int i = 0; i < 512; i++) y.sheet(i % 4, i % 5, 40);
        made = bean.getThreadAllocatedBytes(Thread.currentThread().getId()) - before;
        need(made < 200_000, "512 sheets take " + made + " bytes");
    }

    public static void main(String[] args) throws Exception {
        face();
        classesInside();
        words();
        methodLengths();
        room();
        System.out.println("LanguageTest: " + wrong + " rules broken");
        if (wrong != 0) System.exit(1);
    }
}

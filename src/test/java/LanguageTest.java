import java.lang.management.ManagementFactory;
import java.lang.reflect.Constructor;
import java.lang.reflect.Field;
import java.lang.reflect.Method;
import java.lang.reflect.Modifier;
import java.nio.file.Files;
import java.nio.file.Path;
import java.util.ArrayList;
import java.util.Arrays;
import java.util.List;
import java.util.Map;
import java.util.Set;
import java.util.TreeMap;
import java.util.TreeSet;
import java.util.regex.Matcher;
import java.util.regex.Pattern;
import java.util.stream.Collectors;

/** Those rules of ../shared/LANGUAGE.md that can be looked at from outside: the face, what is called, the words, the sizes, the room. */
public final class LanguageTest {
    // As the document's code block has it, without the names of what is told.
    private static final String FACE = "thing(int,int,int,int) thingOf(int,int) change(int,int,int) remake(int,int) iron(int,int) board(int,int,int) boardOf(int,int) ends(int) "
        + "anew() state(int) feed(long,int) rules() wash() on(int) when(int) creaseFor(int) boardFor(int) fat(int) least(int) left(int,int) piles(int) "
        + "best(int) ith(int,int) ways(int) note(int,int) bars(int,int) game(int) play(int) report(int,int,int,int) forget() lone(int) liar() seed(int) lot() times(int,int) "
        + "prove(int) row(int,int) alterRow(int,int,int) judge() sheet(int,int,int) write(int,int,int) item(int,int,int) goAll(int,int,int) wouldBe(int,int,int) "
        + "shelf(int,int,int) taken(int,int) act(int,int,int) trace(int) many(int) keep() again()";
    private static final Set<String> NAMES = Set.of(FACE.replaceAll("\\([a-z,]*\\)", "").split(" "));
    private static final int DEEPEST = 8;
    private static int wrong = 0;

    private static void need(boolean so, String what) {
        if (!so) {
            wrong++;
            System.out.println(what);
        }
    }

    private static void face() {
        Class<?> c = IronedFlat.class;
        TreeSet<String> due = new TreeSet<>(List.of(FACE.split(" ")));
        TreeSet<String> found = new TreeSet<>();
        for (Method m : c.getDeclaredMethods()) {
            if (m.isSynthetic()) continue;
            if (Modifier.isPublic(m.getModifiers())) {
                found.add(m.getName() + told(m.getParameterTypes()));
                need(m.getReturnType() == int.class, m.getName() + " doesn't answer an int");
                need(!Modifier.isStatic(m.getModifiers()), m.getName() + " is static");
            } else {
                need(Modifier.isPrivate(m.getModifiers()), m.getName() + " is neither public nor private");
                need(!NAMES.contains(m.getName()), "a private method bears the name " + m.getName());
            }
        }
        need(found.equals(due), "the public methods are " + found);
        need(c.getDeclaredConstructors().length == 1 && c.getConstructors().length == 1, "not one constructor alone, or it is not public");
        need(c.getConstructors()[0].getParameterCount() == 0, "the constructor is told something");
        need(c.getModifiers() == (Modifier.PUBLIC | Modifier.FINAL), "the class is not public and final");
        need(c.getSuperclass() == Object.class && c.getInterfaces().length == 0, "the class is under another one");
    }

    private static String told(Class<?>[] types) {
        return Arrays.stream(types).map(Class::getName).collect(Collectors.joining(",", "(", ")"));
    }

    private static void constants() throws Exception {
        TreeSet<String> found = new TreeSet<>();
        for (Field f : IronedFlat.class.getDeclaredFields()) {
            if (!Modifier.isPublic(f.getModifiers())) {
                need(Modifier.isPrivate(f.getModifiers()), f.getName() + " is neither public nor private");
                continue;
            }
            need(Modifier.isStatic(f.getModifiers()) && Modifier.isFinal(f.getModifiers()) && f.getType() == int.class, f.getName() + " is no constant int");
            found.add(f.getName() + " = " + f.getInt(null));
        }
        need(found.equals(new TreeSet<>(List.of("BAD = -1", "FULL = -2", "NONE = -3", "STATE = -4"))), "the public constants are " + found);
    }

    private static List<Class<?>> classes() {
        List<Class<?>> all = new ArrayList<>(List.of(IronedFlat.class.getDeclaredClasses()));
        for (Class<?> c : all) {
            need(Modifier.isStatic(c.getModifiers()), c + " is not static");
            need(!Modifier.isPublic(c.getModifiers()) && !Modifier.isProtected(c.getModifiers()), c + " can be seen");
            need(c.getDeclaredClasses().length == 0, c + " has classes inside");
        }
        all.add(IronedFlat.class);
        need(all.size() <= 12, "too many classes");
        return all;
    }

    private static void members() {
        for (Class<?> c : classes()) {
            for (Method m : c.getDeclaredMethods()) {
                need(c == IronedFlat.class || m.isSynthetic() || !NAMES.contains(m.getName()), c + " has a method " + m.getName());
                need(m.getParameterCount() <= 7, m + " takes too much");
            }
            for (Constructor<?> m : c.getDeclaredConstructors()) need(m.getParameterCount() <= 7, m + " takes too much");
            int fields = 0;
            for (Field f : c.getDeclaredFields()) {
                boolean isStatic = Modifier.isStatic(f.getModifiers());
                if (!isStatic) fields++;
                need(!isStatic || Modifier.isFinal(f.getModifiers()), f + " is static and not final");
                need(!isStatic || List.of("int", "long", "boolean", "char", "java.lang.String", "[I", "[J", "[C", "[B").contains(f.getType().getName()), f + " is static, and no constant");
            }
            need(fields <= 20, c + " has too many fields");
        }
    }

    /** What the compiled classes call: of the library nothing but what is listed, and of each other no more than eight deep. */
    private static void calls() throws Exception {
        Map<String, TreeSet<String>> calls = new TreeMap<>();
        for (Class<?> c : classes()) {
            ClassFile file = new ClassFile(c);
            calls.putAll(file.calls);
            for (String b : file.barred) need(false, b);
        }
        Pattern library = Pattern.compile("java\\.lang\\.(Object\\.<init>|String\\.(length|charAt)|System\\.arraycopy|(Integer|Math)\\.(?!\\w*Exact$)\\w+)|java\\.util\\.Arrays\\.(copyOf|copyOfRange|fill)");
        for (String m : calls.keySet()) {
            for (String called : calls.get(m)) need(calls.containsKey(called) || library.matcher(called).matches(), m + " calls " + called);
        }
        for (String name : NAMES) {
            List<String> way = deepest("IronedFlat." + name, calls, new ArrayList<>());
            need(way.size() <= DEEPEST, "deeper than " + DEEPEST + ": " + way);
        }
    }

    // A method that is open already is not gone into again: recursion is not counted.
    private static List<String> deepest(String from, Map<String, TreeSet<String>> calls, List<String> open) {
        List<String> here = new ArrayList<>(open);
        here.add(from);
        List<String> best = here;
        for (String called : calls.getOrDefault(from, new TreeSet<>())) {
            if (!calls.containsKey(called) || here.contains(called)) continue;
            List<String> way = deepest(called, calls, here);
            if (way.size() > best.size()) best = way;
        }
        return best;
    }

    private static void words() throws Exception {
        String source = Files.readString(Path.of("src/main/java/IronedFlat.java"));
        for (int i = 0; i < source.length(); i++) need(source.charAt(i) < 128, "a sign beyond 127 at " + i);
        String code = source.replaceAll("(?s)/\\*.*?\\*/", "").replaceAll("//[^\n]*", "").replaceAll("\"[^\"\n]*\"", "\"\"");
        String[] barred = {"throw", "throws", "try", "catch", "finally", "synchronized", "assert", "volatile", "native", "Object", "Exception",
            "hashCode", "getClass", "String toString\\(", "boolean equals\\(", "Random", "Thread", "System\\.(?!arraycopy)", "->", "::", "\\w+Exact", "package", "protected",
            "var", "Double", "Float", "Math\\.random", "import (?!java\\.util\\.(Arrays|ArrayList|List|Iterator);)", "Arrays\\.(?!fill|copyOf)", "static \\{", "@(?!Override)\\w+"};
        for (String b : barred) {
            Matcher m = Pattern.compile(b.matches("\\w+") ? "\\b" + b + "\\b" : b).matcher(code);
            need(!m.find(), "the source holds " + b);
        }
        need(!Pattern.compile("\"\"\\s*\\+|\\+\\s*\"\"").matcher(code).find(), "texts are joined by +");
    }

    private static void methodLengths() throws Exception {
        int start = -1;
        String indent = "";
        List<String> lines = Files.readAllLines(Path.of("src/main/java/IronedFlat.java"));
        for (int i = 0; i < lines.size(); i++) {
            Matcher m = Pattern.compile("^( {4}| {8})[a-zA-Z].*\\) \\{$").matcher(lines.get(i));
            if (start < 0 && m.find()) {
                start = i;
                indent = m.group(1);
            } else if (start >= 0 && lines.get(i).equals(indent + "}")) {
                need(i - start < 60, "the method at line " + (start + 1) + " is long");
                start = -1;
            }
        }
    }

    /** The dearest calls must make next to nothing, for a whole run lives in one room. */
    private static void room() {
        com.sun.management.ThreadMXBean bean = (com.sun.management.ThreadMXBean) ManagementFactory.getThreadMXBean();
        long before = bean.getThreadAllocatedBytes(Thread.currentThread().getId());
        IronedFlat x = new IronedFlat();
        long made = bean.getThreadAllocatedBytes(Thread.currentThread().getId()) - before;
        need(made < 100_000, "a new object takes " + made + " bytes");
        for (int k = 0; k < 6; k++) x.thing(1 + k % 5, 10 * k, k, k % 3);
        before = bean.getThreadAllocatedBytes(Thread.currentThread().getId());
        for (int i = 0; i < 40; i++) {
            x.best(4);
            x.ways(4);
            x.note(4, 63);
            x.play(4);
            x.times(40, 50);
            x.creaseFor(i % 6);
            x.lone(0);
            x.liar();
            x.prove(4);
            x.judge();
            x.keep();
            x.again();
        }
        made = bean.getThreadAllocatedBytes(Thread.currentThread().getId()) - before;
        need(made < 100_000, "480 dear calls take " + made + " bytes");
        before = bean.getThreadAllocatedBytes(Thread.currentThread().getId());
        IronedFlat y = new IronedFlat();
        for (int i = 0; i < 512; i++) y.sheet(i % 4, i % 5, 40);
        made = bean.getThreadAllocatedBytes(Thread.currentThread().getId()) - before;
        need(made < 200_000, "512 sheets take " + made + " bytes");
    }

    public static void main(String[] args) throws Exception {
        face();
        constants();
        members();
        calls();
        words();
        methodLengths();
        room();
        System.out.println("LanguageTest: " + wrong + " rules broken");
        if (wrong != 0) System.exit(1);
    }
}

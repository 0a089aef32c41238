import java.lang.management.ManagementFactory;
import java.lang.reflect.Field;
import java.lang.reflect.Method;
import java.lang.reflect.Modifier;
import java.nio.file.Files;
import java.nio.file.Path;
import java.util.List;
import java.util.Set;
import java.util.TreeSet;
import java.util.regex.Matcher;
import java.util.regex.Pattern;

/** What of LANGUAGE.md can be looked at from here; and that no call makes objects. */
public final class RulesTest {
    private static final Set<String> CONSTANTS = Set.of("NONE", "BAD", "STATE", "FULL", "NO");
    private static final List<String> FACE = List.of(
        "int year(int,int)", "int measure(int,int,int)", "int renew(int,int,int)", "int set(int,int)", "int feed(int)",
        "int read()", "int of(int,int)", "int about(int,int)", "int at(int,int,int)", "int group(int,int)",
        "int told(int)", "long total()", "int alone(int)", "int way(int,int)", "int ways(int,int)", "int rank(int)",
        "int merit(int,int)", "long more(int)", "long shock(int,int,int)", "int see(int,int)", "int fits(int,int)",
        "long odds(int,int)", "long mean(int)", "int event(int,int)", "long after(int)", "int book(int,int)",
        "int looked()", "int judge(int,int)", "int image()", "int undo()", "int count(int)", "int tape(int,int,int)",
        "int item(int,int,long)", "long peek(int,int)", "int shift(int,int,int,int,int)");
    private static final String[] NOT_WRITTEN = {
        "\\b(throw|throws|try|catch|finally|synchronized|assert|import|package|native|volatile|transient)\\b",
        "\\b(Object|Exception|Error|Thread|Random|Scanner|HashMap|Map|Set|Optional|Stream)\\b",
        "->", "::", "\"", "@", "\\w+Exact\\b", "\\bvar\\b", "\\bfloat\\b", "\\bdouble\\b", "[^\\x00-\\x7f]"};

    public static void main(String[] args) throws Exception {
        face();
        classes();
        source();
        room();
        Check.end();
    }

    private static String signature(Method m) {
        StringBuilder all = new StringBuilder(m.getReturnType() + " " + m.getName() + "(");
        for (Class<?> type : m.getParameterTypes()) {
            all.append(all.charAt(all.length() - 1) == '(' ? "" : ",").append(type);
        }
        return all.append(")").toString();
    }

    private static void face() {
        Set<String> found = new TreeSet<>();
        Set<String> names = new TreeSet<>();
        for (Method m : PermitBank.class.getDeclaredMethods()) {
            if (Modifier.isPublic(m.getModifiers())) {
                found.add(signature(m));
                names.add(m.getName());
                Check.holds("1 not static: " + m, !Modifier.isStatic(m.getModifiers()));
            }
        }
        Check.holds("1 face: " + found, found.equals(new TreeSet<>(FACE)));
        for (Method m : PermitBank.class.getDeclaredMethods()) {
            boolean open = Modifier.isPublic(m.getModifiers());
            Check.holds("1 public or private: " + m, open || Modifier.isPrivate(m.getModifiers()));
            Check.holds("1 name of its own: " + m, open || !names.contains(m.getName()));
        }
        for (Field f : PermitBank.class.getDeclaredFields()) {
            int is = f.getModifiers();
            boolean open = CONSTANTS.contains(f.getName());
            Check.holds("1 constant: " + f, open ? Modifier.isPublic(is) && Modifier.isStatic(is) : Modifier.isPrivate(is));
        }
        Check.holds("1 final", Modifier.isFinal(PermitBank.class.getModifiers()));
        Check.due("1 constructors", PermitBank.class.getDeclaredConstructors().length, 1);
        Check.due("1 open constructors", PermitBank.class.getConstructors().length, 1);
    }

    private static void classes() {
        Class<?>[] inside = PermitBank.class.getDeclaredClasses();
        Check.holds("11 some twelve classes", inside.length <= 11);
        measure(PermitBank.class);
        for (Class<?> c : inside) {
            Check.holds("2 static: " + c, Modifier.isStatic(c.getModifiers()) && !Modifier.isPublic(c.getModifiers()));
            measure(c);
        }
    }

    private static void measure(Class<?> c) {
        int fields = 0;
        for (Field f : c.getDeclaredFields()) {
            boolean isStatic = Modifier.isStatic(f.getModifiers());
            fields += isStatic ? 0 : 1;
            Check.holds("5 final: " + f, !isStatic || Modifier.isFinal(f.getModifiers()));
        }
        Check.holds("11 some twenty fields: " + c, fields <= 20);
        for (Method m : c.getDeclaredMethods()) {
            Check.holds("11 seven parameters: " + m, m.getParameterCount() <= 7);
        }
    }

    private static void source() throws Exception {
        String text = Files.readString(Path.of("src/main/java/PermitBank.java"));
        String code = text.replaceAll("(?s)/\\*.*?\\*/", "").replaceAll("//.*", "");
        for (String wrong : NOT_WRITTEN) {
            Matcher m = Pattern.compile(wrong).matcher(code);
            Check.holds("not to be written: " + wrong, !m.find());
        }
        // A method's end stands as far in as its beginning.
        Matcher m = Pattern.compile("(?m)^( +)[\\w\\[\\] ]+\\([^;\\n]*\\) \\{\\n(?:.*\\n)*?\\1\\}$").matcher(code);
        int methods = 0;
        while (m.find()) {
            methods++;
            Check.holds("11 some sixty lines: " + m.group().lines().findFirst(), m.group().lines().count() <= 60);
        }
        Check.holds("methods found: " + methods, methods > 35);
    }

    /** A run may hold some 600,000 objects: only the constructor makes any. */
    private static void room() {
        run(Check.bank("y20,40"));
        PermitBank x = Check.bank("y20,40");
        com.sun.management.ThreadMXBean bean = (com.sun.management.ThreadMXBean) ManagementFactory.getThreadMXBean();
        long thread = Thread.currentThread().getId();
        bean.getThreadAllocatedBytes(thread);
        long before = bean.getThreadAllocatedBytes(thread);
        run(x);
        long made = bean.getThreadAllocatedBytes(thread) - before;
        Check.holds("12 bytes made by the calls: " + made, made < 4096);
    }

    private static void run(PermitBank x) {
        for (int k = 0; k < 200; k++) {
            x.year(k % 21, k % 41);
            x.measure(k % 5, 1 + k % 20, 1 + k % 9);
            x.renew(k % 4, k % 5, k % 21);
            x.set(k % 4, k % 21);
            x.feed("y1,1;f2;".charAt(k % 8));
            if (k % 7 == 0) {
                x.read();
            }
            x.total();
            x.more(k % 5);
            x.shock(k % 5, 0, k % 10);
            x.see(k % 5, k % 21);
            x.fits(k % 5, 0);
            x.odds(k % 5, 0);
            x.mean(0);
            x.event(k % 4, k % 5);
            x.after(k % 3);
            x.book(k % 5, k % 21);
            x.looked();
            x.judge(k % 6, k % 60);
            x.image();
            x.undo();
            x.tape(k % 6, k % 5, k % 61);
            x.item(k % 6, k % 60, k);
            x.shift(k % 6, 0, (k + 5) % 6, 0, k % 60);
            ask(x, k);
        }
    }

    private static void ask(PermitBank x, int k) {
        x.of(k % 5, k % 9);
        x.about(k % 10, k % 4);
        x.at(k % 5, k % 21, k % 2);
        x.group(k % 5, k % 6);
        x.told(k % 13);
        x.alone(k % 5);
        x.way(k % 5, k % 4);
        x.ways(k % 6 - 1, k % 3);
        x.rank(k % 10);
        x.merit(k % 5, k % 3);
        x.count(k % 4);
        x.peek(k % 6, k % 60);
    }
}

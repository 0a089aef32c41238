import java.lang.reflect.InvocationTargetException;
import java.lang.reflect.Method;
import java.lang.reflect.Modifier;
import java.util.ArrayList;
import java.util.Arrays;
import java.util.Comparator;
import java.util.List;
import java.util.Random;

/** All promises: random runs of calls, each answered by the class as by the Model. */
public final class ModelTest {
    private static final int RUNS = 1000;
    private static final int CALLS = 220;
    private static final String LETTERS = "ymfcsl,;0123456789 ";
    private static final int[] EXTREMES = {Integer.MIN_VALUE, Integer.MAX_VALUE, -100, 100, 21, 41, 61, -2};

    private final Random random;
    private final PermitBank x = new PermitBank();
    private final Model model = new Model();
    private final StringBuilder calls = new StringBuilder();

    private ModelTest(int run) {
        random = new Random(run);
    }

    public static void main(String[] args) throws Exception {
        List<Method> methods = new ArrayList<>();
        for (Method m : PermitBank.class.getDeclaredMethods()) {
            if (Modifier.isPublic(m.getModifiers())) {
                methods.add(m);
            }
        }
        methods.sort(Comparator.comparing(Method::getName));
        Check.due("methods", methods.size(), 35);
        int[] rare = new int[4];
        for (int run = 0; run < RUNS; run++) {
            new ModelTest(run).go(methods, rare);
        }
        // The runs must have met what is rare: taken, given, borrowed, short.
        for (int k = 0; k < 4; k++) {
            Check.holds("told " + (8 + k) + " above 0 in " + rare[k] + " runs", rare[k] > RUNS / 20);
        }
        Check.end();
    }

    private void go(List<Method> methods, int[] rare) throws Exception {
        int years = random.nextInt(6);
        for (int k = 0; k < years; k++) {
            call(method(methods, "year"), in(0, 20), random.nextBoolean() ? in(0, 40) : in(0, 15));
        }
        int measures = random.nextInt(11);
        for (int k = 0; k < measures; k++) {
            call(method(methods, "measure"), in(0, Math.max(0, years - 1)), in(1, 20), in(1, 9));
        }
        for (int what = 0; what < 4; what++) {
            if (random.nextBoolean()) {
                call(method(methods, "set"), what, in(0, what == 3 ? 5 : 20));
            }
        }
        if (!askAll(methods)) {
            return;
        }
        for (int k = 0; k < 4; k++) {
            rare[k] += x.told(8 + k) > 0 ? 1 : 0;
        }
        for (int k = 0; k < CALLS; k++) {
            if (random.nextInt(40) == 0) {
                text(methods);
            }
            Method m = methods.get(random.nextInt(methods.size()));
            if (!call(m, arguments(m))) {
                return;
            }
        }
        askAll(methods);
    }

    /** Every number of every question that changes nothing, and of those that would be. */
    private boolean askAll(List<Method> methods) throws Exception {
        boolean same = call(method(methods, "total"));
        for (int what = -1; what <= 13; what++) {
            same &= call(method(methods, "told"), what);
        }
        for (int y = -1; y <= 5; y++) {
            for (int what = -1; what <= 9; what++) {
                same &= call(method(methods, "of"), y, what);
            }
            for (int what = -1; what <= 6; what++) {
                same &= call(method(methods, "group"), y, what);
            }
            for (int k = -1; k <= 5; k++) {
                same &= call(method(methods, "way"), y, k);
            }
            same &= call(method(methods, "alone"), y);
            same &= call(method(methods, "more"), y);
        }
        for (int k = -1; k <= 10; k++) {
            same &= call(method(methods, "rank"), k);
            same &= call(method(methods, "about"), k, 3);
            for (int what = 0; what <= 2; what++) {
                same &= call(method(methods, "ways"), k, what);
            }
        }
        return same;
    }

    private static Method method(List<Method> methods, String name) {
        for (Method m : methods) {
            if (m.getName().equals(name)) {
                return m;
            }
        }
        throw new IllegalArgumentException(name);
    }

    private int in(int least, int most) {
        return least + random.nextInt(most - least + 1);
    }

    /** Mostly small numbers around the limits, so that most calls are not refused. */
    private int number() {
        int kind = random.nextInt(20);
        if (kind == 0) {
            return EXTREMES[random.nextInt(EXTREMES.length)];
        }
        return kind < 10 ? in(-1, 5) : kind < 17 ? in(0, 3) : in(0, 20);
    }

    private Object[] arguments(Method m) {
        Object[] all = new Object[m.getParameterCount()];
        for (int k = 0; k < all.length; k++) {
            boolean isLong = m.getParameterTypes()[k] == long.class;
            all[k] = isLong ? (Object) (random.nextBoolean() ? random.nextLong() : number()) : (Object) number();
        }
        String name = m.getName();
        if (name.equals("feed")) {
            all[0] = (int) LETTERS.charAt(random.nextInt(LETTERS.length()));
        } else if (name.equals("tape") && random.nextBoolean()) {
            all[1] = 3;
        } else if (name.equals("item") && random.nextBoolean()) {
            all[2] = (long) x.of(in(0, 4), 4);
        } else if ((name.equals("see") || name.equals("book")) && random.nextInt(3) > 0) {
            int y = in(0, 4);
            all[0] = y;
            all[1] = x.of(y, 4);
        } else if ((name.equals("undo") || name.equals("see") || name.equals("event")) && random.nextBoolean()) {
            return new Object[] {in(0, 3), in(0, 20)};
        }
        return Arrays.copyOf(all, m.getParameterCount());
    }

    /** A text that is nearly a set-up, and is read. */
    private void text(List<Method> methods) throws Exception {
        StringBuilder text = new StringBuilder();
        int clauses = in(1, random.nextInt(4) == 0 ? 15 : 5);
        for (int k = 0; k < clauses; k++) {
            text.append(k == 0 ? "" : ";").append(clause());
        }
        if (random.nextInt(3) == 0) {
            text.setCharAt(random.nextInt(text.length()), LETTERS.charAt(random.nextInt(LETTERS.length())));
        }
        if (random.nextInt(5) == 0) {
            text.setLength(random.nextInt(text.length() + 1));
        }
        for (int k = 0; k < text.length(); k++) {
            call(method(methods, "feed"), (int) text.charAt(k));
        }
        call(method(methods, "read"));
    }

    private String clause() {
        switch (random.nextInt(4)) {
            case 0: return "y" + in(0, 22) + "," + in(0, 42);
            case 1: return "m" + in(0, 5) + in(0, 21) + "," + in(0, 9);
            case 2: return "l" + in(0, 6);
            default: return "fcs".charAt(random.nextInt(3)) + "" + in(0, 21);
        }
    }

    private boolean call(Method m, Object... arguments) throws Exception {
        Object[] given = Arrays.copyOf(arguments, m.getParameterCount());
        for (int k = 0; k < given.length; k++) {
            boolean isLong = m.getParameterTypes()[k] == long.class;
            given[k] = isLong ? (Object) ((Number) given[k]).longValue() : (Object) ((Number) given[k]).intValue();
        }
        String told = m.getName() + Arrays.toString(given);
        calls.append(told).append(' ');
        long got = answer(m, x, given);
        long want = answer(Model.class.getDeclaredMethod(m.getName(), m.getParameterTypes()), model, given);
        Check.due(got == want ? told : calls.toString(), got, want);
        return got == want;
    }

    private static long answer(Method m, Object on, Object[] given) throws IllegalAccessException {
        try {
            return ((Number) m.invoke(on, given)).longValue();
        } catch (InvocationTargetException e) {
            System.out.println(m + Arrays.toString(given) + " threw " + e.getCause());
            return 12345;
        }
    }
}

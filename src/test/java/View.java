import java.util.ArrayList;
import java.util.LinkedHashMap;
import java.util.List;
import java.util.Map;
import java.util.function.Consumer;
import java.util.function.Supplier;
import java.util.function.ToLongFunction;

/** All that shows of a bank: two banks of one view are alike. No object is used for more than 512 calls. */
final class View {
    /** How many questions one object is asked, at most. */
    private static final int TOGETHER = 250;
    private static final Map<String, ToLongFunction<PermitBank>> QUESTIONS = new LinkedHashMap<>();
    private static final Map<String, ToLongFunction<PermitBank>> FEW = new LinkedHashMap<>();
    private static final Map<String, Consumer<PermitBank>> CHANGES = new LinkedHashMap<>();

    static {
        few();
        QUESTIONS.putAll(FEW);
        ofYears();
        ofMeasures();
        wouldBe();
        ofTapes();
        changes();
    }

    private View() { }

    /** The answers to all questions, and to a few behind each of some changes; the maker gives equal new banks. */
    static Map<String, Long> of(Supplier<PermitBank> maker) {
        Map<String, Long> all = new LinkedHashMap<>();
        answers(all, "", maker, x -> { }, QUESTIONS);
        CHANGES.forEach((name, change) -> answers(all, name + ", ", maker, change, FEW));
        return all;
    }

    static List<ToLongFunction<PermitBank>> questions() {
        return new ArrayList<>(QUESTIONS.values());
    }

    /** The first question that two views answer otherwise, or an empty text. */
    static String unlike(Map<String, Long> one, Map<String, Long> other) {
        for (Map.Entry<String, Long> e : one.entrySet()) {
            if (!e.getValue().equals(other.get(e.getKey()))) {
                return e.getKey() + ": " + e.getValue() + ", then " + other.get(e.getKey());
            }
        }
        return "";
    }

    private static void answers(Map<String, Long> all, String ahead, Supplier<PermitBank> maker,
            Consumer<PermitBank> change, Map<String, ToLongFunction<PermitBank>> questions) {
        PermitBank x = null;
        int asked = 0;
        for (Map.Entry<String, ToLongFunction<PermitBank>> e : questions.entrySet()) {
            if (asked % TOGETHER == 0) {
                x = maker.get();
                change.accept(x);
            }
            all.put(ahead + e.getKey(), e.getValue().applyAsLong(x));
            asked++;
        }
    }

    private static void few() {
        for (int k = 0; k <= 12; k++) {
            int what = k;
            FEW.put("told " + what, x -> x.told(what));
            FEW.put("count " + what, x -> x.count(what));
        }
        FEW.put("total", PermitBank::total);
        FEW.put("looked", PermitBank::looked);
        for (int k = 0; k < 10; k++) {
            int n = k;
            FEW.put("after " + n, x -> x.after(n));
            FEW.put("cap " + n, x -> x.of(n, 0));
            FEW.put("emission " + n, x -> x.of(n, 1));
            FEW.put("fits " + n, x -> x.fits(n, 0));
            FEW.put("fits from " + n, x -> x.fits(n, 1));
            for (int w = 0; w < 4; w++) {
                int what = w;
                FEW.put("about " + n + " " + what, x -> x.about(n, what));
            }
        }
    }

    private static void ofYears() {
        for (int k = 0; k < 5; k++) {
            int y = k;
            QUESTIONS.put("alone " + y, x -> x.alone(y));
            for (int w = 0; w < 10; w++) {
                int what = w;
                QUESTIONS.put("of " + y + " " + what, x -> x.of(y, what));
                QUESTIONS.put("group " + y + " " + what, x -> x.group(y, what));
                QUESTIONS.put("merit " + y + " " + what, x -> x.merit(y, what));
                QUESTIONS.put("way " + y + " " + what, x -> x.way(y, what));
            }
            for (int q = 0; q <= 20; q++) {
                int p = q;
                QUESTIONS.put("high " + y + " " + p, x -> x.at(y, p, 0));
                QUESTIONS.put("low " + y + " " + p, x -> x.at(y, p, 1));
            }
        }
        for (int j = -1; j < 15; j++) {
            int k = j;
            QUESTIONS.put("ways from " + k, x -> x.ways(k, 0));
            QUESTIONS.put("ways to " + k, x -> x.ways(k, 1));
            QUESTIONS.put("ways many " + k, x -> x.ways(k, 2));
        }
    }

    private static void ofMeasures() {
        for (int k = 0; k < 10; k++) {
            int n = k;
            QUESTIONS.put("rank " + n, x -> x.rank(n));
        }
    }

    private static void wouldBe() {
        for (int k = 0; k < 5; k++) {
            int y = k;
            QUESTIONS.put("more " + y, x -> x.more(y));
            for (int b = 0; b < 5; b++) {
                int by = b;
                QUESTIONS.put("shock up " + y + " " + by, x -> x.shock(y, by, 9));
                QUESTIONS.put("shock down " + y + " " + by, x -> x.shock(y, by, -9));
            }
            for (int p = 0; p < 2; p++) {
                int part = p;
                QUESTIONS.put("odds " + y + " " + part, x -> x.odds(y, part));
                QUESTIONS.put("mean " + part, x -> x.mean(part));
            }
        }
    }

    private static void ofTapes() {
        for (int t = 0; t < 6; t++) {
            int tape = t;
            QUESTIONS.put("judge " + tape, x -> x.judge(tape, 0));
            QUESTIONS.put("judge end " + tape, x -> x.judge(tape, 59));
            // Which sort it is shows in what a row of each sort takes from it.
            QUESTIONS.put("shift " + tape, x -> x.shift(tape, 0, tape, 0, 0));
            for (int o = 0; o < 6; o++) {
                int other = o;
                QUESTIONS.put("shift " + tape + " " + other, x -> x.shift(tape, 0, other, 0, 0));
            }
            for (int k = 0; k <= 60; k++) {
                int i = k;
                QUESTIONS.put("peek " + tape + " " + i, x -> x.peek(tape, i));
            }
        }
    }

    private static void changes() {
        CHANGES.put("read", PermitBank::read);
        CHANGES.put("a clause more, read", x -> Check.read(x, ";l4;f3"));
        CHANGES.put("undo", PermitBank::undo);
        for (int k = 0; k < 5; k++) {
            int y = k;
            CHANGES.put("no cap " + y, x -> x.renew(0, y, 0));
            CHANGES.put("all emission " + y, x -> x.renew(1, y, 40));
        }
        CHANGES.put("ceiling 0", x -> x.set(1, 0));
        CHANGES.put("limit 5", x -> x.set(3, 5));
    }
}

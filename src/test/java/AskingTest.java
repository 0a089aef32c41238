import java.util.Map;
import java.util.function.Supplier;
import java.util.function.ToLongFunction;

/** "What is asked changes nothing": promises 8 to 20, 22 to 24, 26, 28, 29, 32 and 35. */
public final class AskingTest {
    public static void main(String[] args) {
        asked("an empty bank", Banks::empty);
        asked("a middle bank", Banks::middle);
        asked("a full bank", Banks::full);
        image("an empty bank", Banks::empty);
        image("a middle bank", Banks::middle);
        Check.end();
    }

    private static void asked(String what, Supplier<PermitBank> maker) {
        Map<String, Long> before = View.of(maker);
        same(what + ": answers are the same again", before, maker);
        for (int from = 0; from < View.questions().size(); from += 60) {
            int begin = from;
            int end = Math.min(from + 60, View.questions().size());
            same(what + ": questions " + begin + " to " + end, before, () -> {
                PermitBank x = maker.get();
                for (ToLongFunction<PermitBank> question : View.questions().subList(begin, end)) {
                    question.applyAsLong(x);
                }
                return x;
            });
        }
    }

    private static void same(String what, Map<String, Long> before, Supplier<PermitBank> maker) {
        String unlike = View.unlike(before, View.of(maker));
        Check.holds(what + " changes " + unlike, unlike.isEmpty());
    }

    /** To take an image changes nothing but what undo answers. */
    private static void image(String what, Supplier<PermitBank> maker) {
        Map<String, Long> before = View.of(maker);
        Map<String, Long> behind = View.of(() -> {
            PermitBank x = maker.get();
            x.image();
            return x;
        });
        String unlike = View.unlike(before, behind);
        Check.holds("30 image of " + what + " changes " + unlike, unlike.isEmpty());
        Map<String, Long> back = View.of(() -> {
            PermitBank x = maker.get();
            x.image();
            Check.holds("30 as many years as undo tells", x.undo() == x.told(0));
            return x;
        });
        unlike = View.unlike(before, back);
        Check.holds("31 undo at once, of " + what + ", changes " + unlike, unlike.isEmpty());
    }
}

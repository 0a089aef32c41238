import java.util.HashMap;
import java.util.List;
import java.util.Map;
import java.util.function.Function;
import java.util.function.Supplier;
import java.util.function.ToLongFunction;

/** Each refusal of promises 2 to 36: its answer, which comes first, and that all stands as it stood before. */
public final class RefusalsTest {
    private static final long NO = PermitBank.NO;
    private static final int NONE = -1, BAD = -2, STATE = -3, FULL = -4;
    private static final int NOTHING = -11, CAST = -12, PLACE = -13, SIZE = -14;
    private static final int LEAST = Integer.MIN_VALUE, MOST = Integer.MAX_VALUE;
    /** Also such as are small again in fewer bits. */
    private static final int[] FAR = {LEAST, LEAST + 1, -65535, -65536, -256, -255, 256, 257, 65536, 65537, MOST};

    private static final Supplier<PermitBank> EMPTY = Banks::empty;
    private static final Supplier<PermitBank> MIDDLE = Banks::middle;
    private static final Supplier<PermitBank> BUSY = Banks::full;
    private static final Map<Supplier<PermitBank>, Map<String, Long>> VIEWS = new HashMap<>();

    public static void main(String[] args) {
        for (Supplier<PermitBank> maker : List.of(EMPTY, MIDDLE, BUSY)) {
            VIEWS.put(maker, View.of(maker));
        }
        years();
        measures();
        renewing();
        settings();
        signs();
        faults();
        questionsOfYears();
        otherQuestions();
        ways();
        wouldBe();
        priced();
        events();
        image();
        judging();
        tapes();
        items();
        shifts();
        Check.end();
    }

    /** The call is answered so, and all stands as before. */
    private static void refused(String what, Supplier<PermitBank> maker, long want, ToLongFunction<PermitBank> call) {
        Check.due(what, call.applyAsLong(maker.get()), want);
        Map<String, Long> then = View.of(() -> {
            PermitBank x = maker.get();
            call.applyAsLong(x);
            return x;
        });
        String unlike = View.unlike(VIEWS.get(maker), then);
        Check.holds(what + " changes " + unlike, unlike.isEmpty());
    }

    /** All of least to most is taken; the ones beyond, and far ones, are refused. */
    private static void range(String what, Supplier<PermitBank> maker, int least, int most, long want,
            Function<Integer, ToLongFunction<PermitBank>> call) {
        beyond(what, maker, least, most, want, call);
        for (int v = least; v <= most; v++) {
            Check.holds(what + " " + v + " is taken", call.apply(v).applyAsLong(maker.get()) != want);
        }
    }

    private static void beyond(String what, Supplier<PermitBank> maker, int least, int most, long want,
            Function<Integer, ToLongFunction<PermitBank>> call) {
        refused(what + " " + (least - 1), maker, want, call.apply(least - 1));
        refused(what + " " + (most + 1), maker, want, call.apply(most + 1));
        for (int v : FAR) {
            refused(what + " " + v, maker, want, call.apply(v));
        }
    }

    private static void years() {
        for (Supplier<PermitBank> maker : List.of(EMPTY, MIDDLE)) {
            range("2 cap", maker, 0, 20, BAD, v -> x -> x.year(v, 0));
            range("2 emission", maker, 0, 40, BAD, v -> x -> x.year(20, v));
        }
        refused("2 full", BUSY, FULL, x -> x.year(0, 0));
        refused("2 full, the greatest", BUSY, FULL, x -> x.year(20, 40));
        refused("2 cap ahead of full", BUSY, BAD, x -> x.year(21, 0));
        refused("2 emission ahead of full", BUSY, BAD, x -> x.year(0, 41));
        refused("2 both", BUSY, BAD, x -> x.year(-1, -1));
    }

    private static void measures() {
        range("3 year", MIDDLE, 0, 1, NONE, v -> x -> x.measure(v, 1, 1));
        range("3 cost", MIDDLE, 1, 20, BAD, v -> x -> x.measure(0, v, 1));
        range("3 much", MIDDLE, 1, 9, BAD, v -> x -> x.measure(1, 20, v));
        refused("3 no years", EMPTY, NONE, x -> x.measure(0, 1, 1));
        refused("3 year ahead of cost", EMPTY, NONE, x -> x.measure(0, 0, 0));
        refused("3 year ahead of much", MIDDLE, NONE, x -> x.measure(2, 1, 10));
        refused("3 full", BUSY, FULL, x -> x.measure(0, 1, 1));
        refused("3 full, last year", BUSY, FULL, x -> x.measure(4, 20, 9));
        refused("3 year ahead of full", BUSY, NONE, x -> x.measure(5, 1, 1));
        refused("3 cost ahead of full", BUSY, BAD, x -> x.measure(0, 21, 1));
        refused("3 much ahead of full", BUSY, BAD, x -> x.measure(0, 1, 10));
    }

    private static void renewing() {
        int[] least = {0, 0, 1, 1};
        int[] most = {20, 40, 20, 9};
        for (int w = 0; w < 4; w++) {
            int what = w;
            range("4 year or measure, what " + what, MIDDLE, 0, what < 2 ? 1 : 2, NONE, k -> x -> x.renew(what, k, 1));
            range("4 year or measure, what " + what, BUSY, 0, what < 2 ? 4 : 9, NONE, k -> x -> x.renew(what, k, 1));
            range("4 v, what " + what, MIDDLE, least[what], most[what], BAD, v -> x -> x.renew(what, 1, v));
            beyond("4 v of the last", BUSY, least[what], most[what], BAD, v -> x -> x.renew(what, what < 2 ? 4 : 9, v));
            refused("4 nothing there", EMPTY, NONE, x -> x.renew(what, 0, 1));
            refused("4 k ahead of v", EMPTY, NONE, x -> x.renew(what, 0, -1));
            refused("4 k ahead of v", MIDDLE, NONE, x -> x.renew(what, 3, 99));
        }
        range("4 what", MIDDLE, 0, 3, NONE, what -> x -> x.renew(what, 0, 1));
        refused("4 what ahead of v", MIDDLE, NONE, x -> x.renew(4, 0, -1));
    }

    private static void settings() {
        int[] most = {20, 20, 20, 5};
        for (Supplier<PermitBank> maker : List.of(EMPTY, BUSY)) {
            range("5 what", maker, 0, 3, NONE, what -> x -> x.set(what, 1));
            refused("5 what ahead of v", maker, NONE, x -> x.set(4, 21));
            refused("5 what ahead of v", maker, NONE, x -> x.set(-1, -1));
            for (int w = 0; w < 4; w++) {
                int what = w;
                range("5 v, what " + what, maker, 0, most[what], BAD, v -> x -> x.set(what, v));
            }
        }
    }

    private static void signs() {
        range("6 sign", EMPTY, 0, 127, BAD, v -> x -> x.feed(v));
        range("6 sign", MIDDLE, 0, 127, BAD, v -> x -> x.feed(v));
        beyond("6 sign ahead of full", BUSY, 0, 127, BAD, v -> x -> x.feed(v));
        refused("6 full", BUSY, FULL, x -> x.feed(0));
        refused("6 full", BUSY, FULL, x -> x.feed(127));
        refused("6 full", BUSY, FULL, x -> x.feed('y'));
    }

    /** By a FAULT all but THE TEXT, which is empty then, stands as before; so it does if all CLAUSES are refused. */
    private static void faults() {
        String[] texts = {"", "x", "y1,1;m01,1;f9;c9;s9;l5;", "y1,1;m01,1;f9;c9;s9;l5;y", "f1;l10", "m", "f1;f21;f1x"};
        int[] answers = {-10, -10, -33, -34, -15, -11, -19};
        for (int k = 0; k < texts.length; k++) {
            unchanged("7 fault", texts[k], answers[k]);
        }
        unchanged("7 all refused", "f21;c21;s21;l6;y21,0;y0,41;m01,0;m00,1;m021,1;m91,1", 0);
        PermitBank full = Banks.full();
        Check.due("7 fault of a full text", full.read(), -10 - 81);
        Check.due("7 empty", full.count(3), 0);
    }

    private static void unchanged(String what, String text, int answer) {
        Supplier<PermitBank> ahead = () -> {
            PermitBank x = Banks.middle();
            x.read();
            return x;
        };
        Check.due(what + " of " + text, Check.read(ahead.get(), text), answer);
        String unlike = View.unlike(View.of(ahead), View.of(() -> {
            PermitBank x = ahead.get();
            Check.read(x, text);
            return x;
        }));
        Check.holds(what + " of " + text + " changes " + unlike, unlike.isEmpty());
    }

    private static void questionsOfYears() {
        for (Supplier<PermitBank> maker : List.of(MIDDLE, BUSY)) {
            int last = maker == MIDDLE ? 1 : 4;
            range("8 year", maker, 0, last, NONE, y -> x -> x.of(y, 0));
            range("8 what", maker, 0, 8, NONE, what -> x -> x.of(last, what));
            range("10 year", maker, 0, last, NONE, y -> x -> x.at(y, 20, 0));
            range("10 what", maker, 0, 1, NONE, what -> x -> x.at(last, 0, what));
            range("10 p", maker, 0, 20, BAD, p -> x -> x.at(last, p, 1));
            range("14 year", maker, 0, last, NONE, y -> x -> x.alone(y));
            range("18 year", maker, 0, last, NONE, y -> x -> x.merit(y, 0));
        }
        refused("10 year ahead of p", MIDDLE, NONE, x -> x.at(2, 21, 0));
        refused("10 what ahead of p", MIDDLE, NONE, x -> x.at(0, -1, 2));
        refused("8 no years", EMPTY, NONE, x -> x.of(0, 0));
        refused("10 no years", EMPTY, NONE, x -> x.at(0, 0, 0));
        refused("14 no years", EMPTY, NONE, x -> x.alone(0));
        refused("18 no years", EMPTY, NONE, x -> x.merit(0, 0));
        for (int k : new int[] {LEAST, LEAST + 1, -256, -2, -1}) {
            refused("18 k " + k, BUSY, NONE, x -> x.merit(0, k));
        }
        for (int k : new int[] {1, 2, 9, 10, 256, 65536, MOST}) {
            refused("18 not so many as " + k, BUSY, -5, x -> x.merit(4, k));
        }
        Check.due("18 the last of as many", Banks.full().merit(4, 0), 5);
        Check.due("18 the last of three", Banks.full().merit(0, 2), 6);
        refused("18 not so many as 3", BUSY, -5, x -> x.merit(0, 3));
    }

    private static void otherQuestions() {
        range("9 measure", MIDDLE, 0, 2, NONE, m -> x -> x.about(m, 0));
        range("9 measure", BUSY, 0, 9, NONE, m -> x -> x.about(m, 3));
        range("9 what", BUSY, 0, 3, NONE, what -> x -> x.about(9, what));
        refused("9 no measures", EMPTY, NONE, x -> x.about(0, 0));
        range("11 group", MIDDLE, 0, 0, NONE, g -> x -> x.group(g, 0));
        range("11 group", BUSY, 0, 1, NONE, g -> x -> x.group(g, 5));
        range("11 what", BUSY, 0, 5, NONE, what -> x -> x.group(1, what));
        refused("11 no groups", EMPTY, NONE, x -> x.group(0, 0));
        range("12 what", EMPTY, 0, 12, NONE, what -> x -> x.told(what));
        range("12 what", BUSY, 0, 12, NONE, what -> x -> x.told(what));
        range("17 k", MIDDLE, 0, 2, NONE, k -> x -> x.rank(k));
        range("17 k", BUSY, 0, 9, NONE, k -> x -> x.rank(k));
        refused("17 no measures", EMPTY, NONE, x -> x.rank(0));
        range("32 what", EMPTY, 0, 3, BAD, what -> x -> x.count(what));
        range("32 what", BUSY, 0, 3, BAD, what -> x -> x.count(what));
    }

    private static void ways() {
        range("15 from", BUSY, 0, 4, NONE, y -> x -> x.way(y, 4));
        range("15 to", BUSY, 0, 4, NONE, y -> x -> x.way(0, y));
        range("15 from", MIDDLE, 0, 1, NONE, y -> x -> x.way(y, 0));
        range("15 to", MIDDLE, 0, 1, NONE, y -> x -> x.way(1, y));
        refused("15 no years", EMPTY, NONE, x -> x.way(0, 0));
        int many = Banks.full().ways(-1, 0);
        range("16 k", BUSY, -1, many - 1, NONE, k -> x -> x.ways(k, 2));
        range("16 what", BUSY, 0, 2, NONE, what -> x -> x.ways(many - 1, what));
        refused("16 both", BUSY, NONE, x -> x.ways(-2, 3));
        refused("16 no ways", EMPTY, NONE, x -> x.ways(0, 0));
        for (int what : FAR) {
            refused("16 whatever what is", BUSY, many, x -> x.ways(-1, what));
            refused("16 whatever what is", EMPTY, 0, x -> x.ways(-1, what));
        }
    }

    private static void wouldBe() {
        range("19 year", MIDDLE, 0, 1, NO, y -> x -> x.more(y));
        range("19 year", BUSY, 0, 4, NO, y -> x -> x.more(y));
        range("20 year", BUSY, 0, 4, NO, y -> x -> x.shock(y, 0, 1));
        range("20 by", BUSY, 0, 4, NO, y -> x -> x.shock(4, y, 1));
        range("20 n", BUSY, -9, 9, NO, n -> x -> x.shock(4, 0, n));
        range("22 year", BUSY, 0, 4, NONE, y -> x -> x.fits(y, 0));
        range("22 what", BUSY, 0, 1, NONE, what -> x -> x.fits(4, what));
        range("23 year", BUSY, 0, 4, NO, y -> x -> x.odds(y, 0));
        range("23 part", BUSY, 0, 1, NO, part -> x -> x.odds(4, part));
        range("24 part", BUSY, 0, 1, NO, part -> x -> x.mean(part));
        range("26 what", BUSY, 0, 2, NO, what -> x -> x.after(what));
        range("26 what", EMPTY, 0, 2, NO, what -> x -> x.after(what));
        refused("19 no years", EMPTY, NO, x -> x.more(0));
        refused("20 no years", EMPTY, NO, x -> x.shock(0, 0, 0));
        refused("22 no years", EMPTY, NONE, x -> x.fits(0, 0));
        refused("23 no years", EMPTY, NO, x -> x.odds(0, 0));
        refused("24 no years", EMPTY, NO, x -> x.mean(0));
        refused("24 no years", EMPTY, NO, x -> x.mean(1));
    }

    private static void priced() {
        range("21 year", MIDDLE, 0, 1, NONE, y -> x -> y == -1 ? x.see(-2, 0) : x.see(y, 0));
        range("21 price", MIDDLE, 0, 20, BAD, p -> x -> x.see(0, p));
        range("27 year", MIDDLE, 0, 1, NONE, y -> x -> y == -1 ? x.book(-2, 0) : x.book(y, 0));
        range("27 price", MIDDLE, 0, 20, BAD, p -> x -> x.book(0, p));
        refused("21 no years", EMPTY, NONE, x -> x.see(0, 0));
        refused("27 no years", EMPTY, NONE, x -> x.book(0, 0));
        refused("21 year ahead of price", MIDDLE, NONE, x -> x.see(2, 21));
        refused("27 year ahead of price", MIDDLE, NONE, x -> x.book(2, -1));
        for (int y = 0; y < 5; y++) {
            int year = y;
            refused("21 full", BUSY, FULL, x -> x.see(year, 20));
            refused("27 full", BUSY, FULL, x -> x.book(year, 20));
        }
        refused("21 year ahead of full", BUSY, NONE, x -> x.see(5, 0));
        refused("21 price ahead of full", BUSY, BAD, x -> x.see(0, 21));
        refused("27 year ahead of full", BUSY, NONE, x -> x.book(5, 0));
        refused("27 price ahead of full", BUSY, BAD, x -> x.book(0, -1));
        for (int rest : FAR) {
            refused("21 none, whatever the rest is", EMPTY, 0, x -> x.see(-1, rest));
            refused("27 none, whatever the rest is", EMPTY, 0, x -> x.book(-1, rest));
            refused("25 none, whatever the rest is", EMPTY, 0, x -> x.event(-1, rest));
        }
    }

    private static void events() {
        range("25 what", MIDDLE, 0, 3, NONE, what -> x -> what == -1 ? x.event(-2, 0) : x.event(what, 0));
        for (int w = 0; w < 2; w++) {
            int what = w;
            range("25 year, what " + what, MIDDLE, 0, 1, NONE, n -> x -> x.event(what, n));
            refused("25 no years, what " + what, EMPTY, NONE, x -> x.event(what, 0));
            refused("25 year ahead of full", BUSY, NONE, x -> x.event(what, 5));
        }
        for (Supplier<PermitBank> maker : List.of(EMPTY, MIDDLE)) {
            range("25 limit", maker, 0, 5, BAD, n -> x -> x.event(2, n));
            range("25 floor", maker, 0, 20, BAD, n -> x -> x.event(3, n));
        }
        refused("25 limit ahead of full", BUSY, BAD, x -> x.event(2, 6));
        refused("25 floor ahead of full", BUSY, BAD, x -> x.event(3, 21));
        refused("25 what ahead of full", BUSY, NONE, x -> x.event(4, 0));
        for (int w = 0; w < 4; w++) {
            int what = w;
            refused("25 full", BUSY, FULL, x -> x.event(what, 1));
        }
    }

    private static void image() {
        refused("31 no image", EMPTY, STATE, x -> x.undo());
        refused("31 no image", MIDDLE, STATE, x -> x.undo());
    }

    private static void judging() {
        for (Supplier<PermitBank> maker : List.of(EMPTY, MIDDLE)) {
            beyond("29 tape", maker, 0, 5, NONE, t -> x -> x.judge(t, 0));
        }
        range("29 tape", BUSY, 0, 5, NONE, t -> x -> x.judge(t, 0));
        refused("29 tape ahead of place", BUSY, NONE, x -> x.judge(6, -1));
        for (int t : new int[] {0, 1, 2, 4}) {
            refused("29 no longs", BUSY, CAST, x -> x.judge(t, 0));
            refused("29 no longs ahead of place", BUSY, CAST, x -> x.judge(t, -1));
        }
        for (int i : new int[] {LEAST, LEAST + 1, -256, -5, -4, -1, 60, 61, 256, 65536, MOST - 1, MOST}) {
            refused("29 place " + i, BUSY, 100, x -> x.judge(5, i));
            refused("29 holds nothing, place " + i, MIDDLE, 100, x -> x.judge(0, i));
            refused("29 no years, place " + i, EMPTY, -5, x -> x.judge(0, i));
        }
    }

    private static void tapes() {
        beyond("33 tape", BUSY, 0, 5, NONE, t -> x -> x.tape(t, 3, 1));
        range("33 tape", MIDDLE, 0, 5, NONE, t -> x -> x.tape(t, 3, 1));
        range("33 sort", BUSY, -1, 4, BAD, sort -> x -> x.tape(5, sort, 1));
        for (int n : new int[] {61, 62, 256, 65536, MOST}) {
            refused("33 n " + n, BUSY, BAD, x -> x.tape(5, 3, n));
            refused("33 sort ahead of n " + n, BUSY, BAD, x -> x.tape(5, 5, n));
        }
        for (int n : new int[] {-1, -2, -60, -256, -65536, LEAST + 1, LEAST}) {
            refused("33 n " + n, BUSY, SIZE, x -> x.tape(5, 3, n));
            refused("33 sort ahead of n " + n, BUSY, BAD, x -> x.tape(5, 5, n));
            refused("33 tape ahead of n " + n, BUSY, NONE, x -> x.tape(6, 3, n));
        }
        refused("33 tape ahead of sort", BUSY, NONE, x -> x.tape(-1, 9, 0));
        refused("33 holding nothing, none such", BUSY, NONE, x -> x.tape(6, -1, 0));
        refused("33 nothing of nothing", EMPTY, 1, x -> x.tape(0, -1, LEAST));
    }

    private static void items() {
        beyond("34 tape", BUSY, 0, 5, NONE, t -> x -> x.item(t, 0, 9));
        beyond("35 tape", BUSY, 0, 5, NO, t -> x -> x.peek(t, 0));
        refused("34 tape ahead of place", BUSY, NONE, x -> x.item(6, -1, 9));
        for (int t : new int[] {0, 3, 4, 5}) {
            beyond("34 place", BUSY, 0, 59, PLACE, i -> x -> x.item(t, i, 9));
            beyond("35 place", BUSY, 0, 59, NO, i -> x -> x.peek(t, i));
        }
        beyond("34 place of 7", BUSY, 0, 6, PLACE, i -> x -> x.item(2, i, 9));
        beyond("35 place of 7", BUSY, 0, 6, NO, i -> x -> x.peek(2, i));
        beyond("34 place of none", BUSY, 0, -1, PLACE, i -> x -> x.item(1, i, 9));
        beyond("35 place of none", BUSY, 0, -1, NO, i -> x -> x.peek(1, i));
        for (int t = 0; t < 6; t++) {
            int tape = t;
            refused("34 nothing", EMPTY, NOTHING, x -> x.item(tape, 0, 1));
            refused("34 nothing ahead of place", EMPTY, NOTHING, x -> x.item(tape, -1, 1));
            refused("35 nothing", EMPTY, NO, x -> x.peek(tape, 0));
        }
    }

    private static void shifts() {
        beyond("36 tape", BUSY, 0, 5, NONE, t -> x -> x.shift(t, 0, 5, 0, 1));
        beyond("36 other", BUSY, 0, 5, NONE, t -> x -> x.shift(5, 0, t, 0, 1));
        refused("36 other ahead of nothing", EMPTY, NONE, x -> x.shift(0, 0, 6, 0, 1));
        refused("36 nothing", EMPTY, NOTHING, x -> x.shift(0, 0, 1, 0, 0));
        refused("36 nothing here", MIDDLE, NOTHING, x -> x.shift(1, 0, 2, 0, 1));
        refused("36 nothing there", MIDDLE, NOTHING, x -> x.shift(2, 0, 1, 0, 1));
        refused("36 nothing ahead of place", MIDDLE, NOTHING, x -> x.shift(2, -1, 1, -1, -1));
        for (int t = 0; t < 5; t++) {
            for (int o = 0; o < 5; o++) {
                int from = t;
                int to = o;
                if (from != to) {
                    refused("36 unlike " + from + " " + to, BUSY, CAST, x -> x.shift(from, 0, to, 0, 1));
                    refused("36 unlike ahead of place", BUSY, CAST, x -> x.shift(from, -1, to, 61, -1));
                }
            }
        }
        beyond("36 i of 1", BUSY, 0, 59, PLACE, i -> x -> x.shift(3, i, 5, 0, 1));
        beyond("36 j of 1", BUSY, 0, 59, PLACE, j -> x -> x.shift(3, 0, 5, j, 1));
        beyond("36 i of none", BUSY, 0, 60, PLACE, i -> x -> x.shift(3, i, 5, 0, 0));
        beyond("36 j of none", BUSY, 0, 60, PLACE, j -> x -> x.shift(3, 0, 5, j, 0));
        beyond("36 n", BUSY, 0, 60, PLACE, n -> x -> x.shift(3, 0, 5, 0, n));
        beyond("36 n from 1", BUSY, 0, 59, PLACE, n -> x -> x.shift(3, 1, 5, 0, n));
        beyond("36 n to 1", BUSY, 0, 59, PLACE, n -> x -> x.shift(3, 0, 5, 1, n));
        beyond("36 n of the same", BUSY, 0, 55, PLACE, n -> x -> x.shift(5, 0, 5, 5, n));
        refused("36 all beyond", BUSY, PLACE, x -> x.shift(3, MOST, 5, MOST, MOST));
        refused("36 i + n wraps around", BUSY, PLACE, x -> x.shift(3, MOST, 5, 0, 2));
        refused("36 j + n wraps around", BUSY, PLACE, x -> x.shift(3, 0, 5, MOST, 2));
        refused("36 i - n wraps around", BUSY, PLACE, x -> x.shift(3, LEAST, 5, 0, LEAST));
        refused("36 i wraps around to its place", BUSY, PLACE, x -> x.shift(3, LEAST, 5, LEAST, 0));
        refused("36 none moves nothing", BUSY, 0, x -> x.shift(3, 60, 5, 60, 0));
        refused("36 none of a row of none", BUSY, 0, x -> x.shift(1, 0, 1, 0, 0));
        refused("36 onto itself", BUSY, 60, x -> x.shift(5, 0, 5, 0, 60));
    }
}

/** Promises 29 to 36: judging, the image, counts, tapes. */
public final class TapesTest {
    private static final long NO = PermitBank.NO;

    public static void main(String[] args) {
        judging();
        image();
        counts();
        tapes();
        items();
        peeks();
        shifts();
        Check.end();
    }

    private static void judging() {
        PermitBank x = new PermitBank();
        Check.due("29 no years, nothing", x.judge(0, 0), -5);
        Check.due("29 no years, below 0", x.judge(5, -1), -5);
        Check.due("29 tape 6", x.judge(6, 0), -1);
        Check.due("29 tape -1", x.judge(-1, 0), -1);
        x.tape(1, 2, 5);
        Check.due("29 cast ahead of no years", x.judge(1, 0), -12);
        Check.read(x, "y0,1;y1,1;y0,3;m23,9");
        // Prices 20, 3, 3.
        Check.due("29 nothing", x.judge(0, 0), 100);
        Check.due("29 nothing, below 0", x.judge(0, -1), 100);
        for (int sort = 0; sort <= 4; sort++) {
            x.tape(1, sort, 0);
            Check.due("29 sort " + sort, x.judge(1, 0), sort == 3 ? 100 : -12);
        }
        x.tape(0, 3, 6);
        long[] row = {7, 20, 3, 3, 20, 3};
        for (int i = 0; i < 6; i++) {
            x.item(0, i, row[i]);
        }
        Check.due("29 from 0", x.judge(0, 0), 0);
        Check.due("29 from 1", x.judge(0, 1), -5);
        Check.due("29 from 2", x.judge(0, 2), 0);
        Check.due("29 from 4", x.judge(0, 4), 102);
        Check.due("29 from 5", x.judge(0, 5), 0);
        Check.due("29 from 6", x.judge(0, 6), 100);
        Check.due("29 from far beyond", x.judge(0, Integer.MAX_VALUE), 100);
        Check.due("29 from -1", x.judge(0, -1), 100);
        Check.due("29 from far below", x.judge(0, Integer.MIN_VALUE), 100);
        x.item(0, 2, 3 + (1L << 32));
        Check.due("29 all of a long counts", x.judge(0, 1), 1);
        x.item(0, 5, 20);
        Check.due("29 from 5 on", x.judge(0, 5), 101);
    }

    private static void image() {
        PermitBank x = new PermitBank();
        Check.due("31 no image", x.undo(), -3);
        Check.due("30 empty", x.image(), 0);
        Check.read(x, "y3,9;y0,5;m05,9;f1;c9;s3;l2");
        x.see(0, 4);
        x.event(0, 1);
        x.event(2, 3);
        x.book(0, 1);
        x.book(1, 2);
        x.book(1, 3);
        long total = x.total();
        long after = x.after(0);
        Check.due("30 two years", x.image(), 2);
        Check.due("30 changes nothing", x.told(2), 1);
        Check.read(x, "y1,1;m11,1;f9;c8;s7;l5");
        x.renew(0, 0, 20);
        x.renew(1, 1, 40);
        x.renew(2, 0, 20);
        x.renew(3, 0, 1);
        x.see(-1, 0);
        x.event(3, 3);
        x.book(-1, 0);
        x.book(2, 20);
        Check.feed(x, "y1");
        x.tape(0, 0, 3);
        Check.due("31 years", x.undo(), 2);
        int[] told = {2, 1, 1, 9, 3, 2};
        for (int k = 0; k < told.length; k++) {
            Check.due("31 told " + k, x.told(k), told[k]);
        }
        int[] counts = {1, 2, 3, 2};
        for (int k = 0; k < counts.length; k++) {
            Check.due("31 count " + k, x.count(k), counts[k]);
        }
        Check.due("31 tape stays", x.peek(0, 2), 0);
        Check.due("31 cap", x.of(0, 0), 3);
        Check.due("31 emission", x.of(1, 1), 5);
        Check.due("31 cost", x.about(0, 1), 5);
        Check.due("31 much", x.about(0, 2), 9);
        Check.due("31 total", x.total(), total);
        Check.due("31 after", x.after(0), after);
        Check.due("31 year 2 is gone", x.of(2, 0), -1);
        Check.due("31 row 0 of the book", x.looked(), 0);
        Check.due("31 the text goes on", Check.read(x, ",1"), 1);
        x.renew(0, 0, 20);
        Check.holds("31 another total", x.total() != total);
        Check.due("31 again", x.undo(), 2);
        Check.due("31 total again", x.total(), total);
        Check.due("31 as it was", x.told(0), 2);
        x.set(0, 0);
        x.image();
        x.set(0, 20);
        x.undo();
        Check.due("30 the new image holds", x.told(2), 0);
    }

    private static void counts() {
        PermitBank x = Check.bank("y1,1");
        x.see(0, 0);
        x.event(0, 0);
        x.event(0, 0);
        x.book(0, 0);
        x.book(0, 0);
        x.book(0, 0);
        Check.feed(x, "yyyy");
        for (int what = 0; what <= 3; what++) {
            Check.due("32 what " + what, x.count(what), what + 1);
        }
        Check.due("32 what -1", x.count(-1), -2);
        Check.due("32 what 4", x.count(4), -2);
    }

    private static void tapes() {
        PermitBank x = new PermitBank();
        Check.due("33 tape 6", x.tape(6, 9, -1), -1);
        Check.due("33 tape -1", x.tape(-1, 0, 0), -1);
        Check.due("33 sort 5", x.tape(0, 5, -1), -2);
        Check.due("33 sort -2", x.tape(0, -2, 1), -2);
        Check.due("33 n 61", x.tape(0, 0, 61), -2);
        Check.due("33 n -1", x.tape(0, 0, -1), -14);
        Check.due("33 least n", x.tape(0, 0, Integer.MIN_VALUE), -14);
        Check.due("33 nothing made", x.item(0, 0, 0), -11);
        for (int sort = 0; sort <= 4; sort++) {
            Check.due("33 sort " + sort, x.tape(5, sort, 60), 1);
            Check.due("33 all 0", x.peek(5, 59), 0);
            x.item(5, 59, 1);
        }
        Check.due("33 n 0", x.tape(5, 0, 0), 1);
        Check.due("33 no places", x.item(5, 0, 0), -13);
        x.tape(5, 0, 60);
        x.item(5, 0, 1);
        Check.due("33 anew", x.tape(5, 0, 60), 1);
        Check.due("33 0 at 0", x.peek(5, 0), 0);
        Check.due("33 0 again", x.peek(5, 59), 0);
        Check.due("33 nothing, n -1", x.tape(5, -1, -1), 1);
        Check.due("33 nothing there", x.item(5, 0, 0), -11);
        Check.due("33 no place there", x.peek(5, 0), NO);
        Check.due("33 nothing, n 61", x.tape(5, -1, 61), 1);
    }

    private static void items() {
        PermitBank x = new PermitBank();
        Check.due("34 tape 6", x.item(6, 0, 0), -1);
        Check.due("34 tape -1", x.item(-1, 0, 0), -1);
        Check.due("34 nothing", x.item(0, -1, 0), -11);
        long v = 0x1234567890abcdefL;
        long[] want = {(byte) 0xef, (short) 0xcdef, 0x90abcdef, v, 1};
        for (int sort = 0; sort <= 4; sort++) {
            x.tape(0, sort, 2);
            Check.due("34 place -1", x.item(0, -1, 1), -13);
            Check.due("34 place 2", x.item(0, 2, 1), -13);
            Check.due("34 item", x.item(0, 1, v), 1);
            Check.due("34 sort " + sort, x.peek(0, 1), want[sort]);
            Check.due("34 the other", x.peek(0, 0), 0);
            Check.due("34 item 0", x.item(0, 1, 0), 1);
            Check.due("34 0", x.peek(0, 1), 0);
        }
        x.tape(0, 4, 1);
        x.item(0, 0, 1L << 40);
        Check.due("34 not 0", x.peek(0, 0), 1);
        x.tape(0, 2, 1);
        x.item(0, 0, 1L << 40);
        Check.due("34 lowest 32", x.peek(0, 0), 0);
    }

    private static void peeks() {
        PermitBank x = new PermitBank();
        Check.due("35 tape 6", x.peek(6, 0), NO);
        Check.due("35 tape -1", x.peek(-1, 0), NO);
        Check.due("35 nothing", x.peek(0, 0), NO);
        x.tape(0, 3, 2);
        Check.due("35 place -1", x.peek(0, -1), NO);
        Check.due("35 place 2", x.peek(0, 2), NO);
        x.item(0, 1, Long.MAX_VALUE);
        Check.due("35 item", x.peek(0, 1), Long.MAX_VALUE);
        Check.due("35 other tape", x.peek(1, 1), NO);
    }

    private static void fill(PermitBank x, int tape, int n, int from) {
        for (int i = 0; i < n; i++) {
            x.item(tape, i, from + i);
        }
    }

    private static void row(String what, PermitBank x, int tape, long... want) {
        for (int i = 0; i < want.length; i++) {
            Check.due(what + " " + i, x.peek(tape, i), want[i]);
        }
        Check.due(what + " end", x.peek(tape, want.length), NO);
    }

    private static void shifts() {
        PermitBank x = new PermitBank();
        Check.due("36 tape 6", x.shift(6, 0, 0, 0, 0), -1);
        Check.due("36 other 6", x.shift(0, 0, 6, 0, 0), -1);
        Check.due("36 tape -1", x.shift(-1, 0, 0, 0, 0), -1);
        Check.due("36 other -1", x.shift(0, 0, -1, 0, 0), -1);
        Check.due("36 nothing", x.shift(0, 0, 0, 0, 0), -11);
        x.tape(0, 2, 5);
        Check.due("36 nothing there", x.shift(0, 0, 1, 0, 0), -11);
        Check.due("36 nothing here", x.shift(1, 0, 0, 0, -1), -11);
        x.tape(1, 3, 5);
        Check.due("36 unlike", x.shift(0, 0, 1, 0, -1), -12);
        x.tape(1, 2, 3);
        fill(x, 0, 5, 1);
        Check.due("36 n -1", x.shift(0, 0, 1, 0, -1), -13);
        Check.due("36 i -1", x.shift(0, -1, 1, 0, 0), -13);
        Check.due("36 j -1", x.shift(0, 0, 1, -1, 0), -13);
        Check.due("36 beyond i", x.shift(0, 3, 1, 0, 3), -13);
        Check.due("36 beyond j", x.shift(0, 0, 1, 1, 3), -13);
        Check.due("36 i 6", x.shift(0, 6, 1, 0, 0), -13);
        Check.due("36 j 4", x.shift(0, 0, 1, 4, 0), -13);
        Check.due("36 over", x.shift(0, 1, 1, 1, Integer.MAX_VALUE), -13);
        Check.due("36 far", x.shift(0, Integer.MAX_VALUE, 1, 0, 1), -13);
        row("36 refused changes nothing", x, 1, 0, 0, 0);
        Check.due("36 none at the ends", x.shift(0, 5, 1, 3, 0), 0);
        Check.due("36 two", x.shift(0, 3, 1, 1, 2), 2);
        row("36 came", x, 1, 0, 4, 5);
        Check.due("36 up", x.shift(0, 0, 0, 1, 4), 4);
        row("36 up", x, 0, 1, 1, 2, 3, 4);
        fill(x, 0, 5, 1);
        Check.due("36 down", x.shift(0, 1, 0, 0, 4), 4);
        row("36 down", x, 0, 2, 3, 4, 5, 5);
    }
}

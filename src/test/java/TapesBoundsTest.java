import java.util.Arrays;

/** Promises 29 to 36: the ends of rows, items and numbers, and what an image keeps. */
public final class TapesBoundsTest {
    private static final long NO = PermitBank.NO;
    private static final int BYTES = 0, SHORTS = 1, INTS = 2, LONGS = 3, BOOLEANS = 4;

    public static void main(String[] args) {
        rowEndsAhead();
        placeBelowZero();
        holdsNothing();
        noYears();
        firstOtherwise();
        noImage();
        imageOfNothing();
        imageOfAllThatIsFull();
        imageOnceMore();
        textAndTapesStay();
        counts();
        sixTapes();
        noneToSixty();
        nothingAnew();
        bytesWrap();
        shortsWrap();
        intsWrap();
        longsDont();
        booleans();
        peekedPlaces();
        shiftedAsTheyWere();
        shiftedToTheEnds();
        shiftedOfEachSort();
        Check.end();
    }

    private static PermitBank fiveYears() {
        // 20, 9, 5, 5, 0
        return Check.bank("y0,1;y0,1;m19,1;y0,1;m25,1;y0,1;m35,1;y1,1");
    }

    private static void fill(PermitBank x, int tape, int from, long... items) {
        for (int k = 0; k < items.length; k++) {
            Check.due("34 item " + (from + k), x.item(tape, from + k, items[k]), 1);
        }
    }

    private static void rowEndsAhead() {
        for (int n = 0; n <= 7; n++) {
            PermitBank x = fiveYears();
            x.tape(3, LONGS, n);
            long[] prices = {20, 9, 5, 5, 0, 1, 1};
            fill(x, 3, 0, Arrays.copyOf(prices, n));
            Check.due("29 a row of " + n, x.judge(3, 0), n < 5 ? 100 + n : -5);
            Check.due("29 from its end, " + n, x.judge(3, n), 100);
            Check.due("29 from beyond its end, " + n, x.judge(3, n + 1), 100);
        }
        PermitBank x = fiveYears();
        x.tape(3, LONGS, 60);
        for (int from = 54; from <= 61; from++) {
            x.tape(3, LONGS, 60);
            for (int y = 0; y < 5 && from + y < 60; y++) {
                x.item(3, from + y, x.of(y, 4));
            }
            Check.due("29 from " + from + " of 60", x.judge(3, from), from <= 55 ? -5 : from <= 60 ? 160 - from : 100);
        }
    }

    private static void placeBelowZero() {
        PermitBank x = fiveYears();
        x.tape(3, LONGS, 60);
        fill(x, 3, 0, 20, 9, 5, 5, 0);
        for (int i : new int[] {-1, -2, -5, -60, Integer.MIN_VALUE, Integer.MIN_VALUE + 1}) {
            Check.due("29 place " + i, x.judge(3, i), 100);
        }
        for (int i : new int[] {60, 61, 65536, Integer.MAX_VALUE - 4, Integer.MAX_VALUE}) {
            Check.due("29 place " + i, x.judge(3, i), 100);
        }
        Check.due("29 place 0", x.judge(3, 0), -5);
    }

    private static void holdsNothing() {
        PermitBank x = fiveYears();
        for (int tape = 0; tape <= 5; tape++) {
            Check.due("29 nothing in " + tape, x.judge(tape, 0), 100);
            Check.due("29 nothing in " + tape + ", place -1", x.judge(tape, -1), 100);
        }
        for (int sort = 0; sort <= 4; sort++) {
            x.tape(0, sort, 5);
            Check.due("29 sort " + sort, x.judge(0, 0), sort == LONGS ? 0 : -12);
            Check.due("29 sort " + sort + ", place -1", x.judge(0, -1), sort == LONGS ? 100 : -12);
        }
        x.tape(0, -1, 0);
        Check.due("29 nothing again", x.judge(0, 0), 100);
    }

    private static void noYears() {
        PermitBank x = new PermitBank();
        x.tape(1, LONGS, 0);
        x.tape(2, LONGS, 3);
        x.tape(3, INTS, 3);
        for (int i : new int[] {0, 3, 60, Integer.MAX_VALUE}) {
            Check.due("29 no years, nothing", x.judge(0, i), -5);
            Check.due("29 no years, a row of none", x.judge(1, i), -5);
            Check.due("29 no years, a row", x.judge(2, i), -5);
            Check.due("29 CAST ahead of no years", x.judge(3, i), -12);
            Check.due("29 NONE ahead of no years", x.judge(6, i), -1);
            Check.due("29 NONE ahead of no years", x.judge(-1, i), -1);
        }
    }

    private static void firstOtherwise() {
        long[] prices = {20, 9, 5, 5, 0};
        for (int y = 0; y < 5; y++) {
            PermitBank x = fiveYears();
            x.tape(0, LONGS, 5);
            fill(x, 0, 0, prices);
            Check.due("29 as they are", x.judge(0, 0), -5);
            x.item(0, y, prices[y] + 1);
            Check.due("29 one more, year " + y, x.judge(0, 0), y);
            x.item(0, y, prices[y] + (1L << 32));
            Check.due("29 above an int, year " + y, x.judge(0, 0), y);
            x.item(0, y, -prices[y] - 1);
            Check.due("29 below 0, year " + y, x.judge(0, 0), y);
            x.item(0, 4, 77);
            Check.due("29 the first of two, year " + y, x.judge(0, 0), y);
            Check.due("29 otherwise ahead of the end, year " + y, x.judge(0, 1), 0);
        }
        PermitBank x = fiveYears();
        x.tape(0, LONGS, 2);
        fill(x, 0, 0, 20, 8);
        Check.due("29 otherwise in the last place", x.judge(0, 0), 1);
    }

    private static void noImage() {
        PermitBank x = new PermitBank();
        Check.due("31 none", x.undo(), -3);
        x.year(3, 4);
        Check.due("31 still none", x.undo(), -3);
        Check.due("31 the year stands", x.of(0, 0), 3);
        Check.due("30 taken", x.image(), 1);
        Check.due("31 there is one", x.undo(), 1);
    }

    private static void imageOfNothing() {
        PermitBank x = new PermitBank();
        Check.due("30 no years", x.image(), 0);
        Check.read(x, "y1,9;y2,9;y3,9;y4,9;y5,9;m01,9;f5;c6;s7;l5");
        x.see(0, 1);
        x.event(0, 1);
        x.book(0, 1);
        Check.due("31 no years", x.undo(), 0);
        int[] told = {0, 0, 0, 20, 0, 0, 0, 0, 0, 0, 0, 0, 0};
        for (int what = 0; what <= 12; what++) {
            Check.due("31 told " + what, x.told(what), told[what]);
        }
        for (int what = 0; what <= 2; what++) {
            Check.due("31 count " + what, x.count(what), 0);
        }
        Check.due("31 total", x.total(), 0);
        Check.due("31 year 0 again", x.year(20, 0), 0);
        Check.due("31 measure 0 again", x.measure(0, 1, 1), 0);
        Check.due("31 once more", x.undo(), 0);
    }

    private static void imageOfAllThatIsFull() {
        PermitBank x = Banks.full();
        long total = x.total();
        long after = x.after(0);
        Check.due("30 five years", x.image(), 5);
        for (int k = 0; k < 10; k++) {
            x.renew(0, k, k);
            x.renew(1, k, 39);
            x.renew(2, k, 20 - k);
            x.renew(3, k, 9 - k % 9);
        }
        for (int what = 0; what < 4; what++) {
            x.set(what, 1);
        }
        x.see(-1, 0);
        x.event(-1, 0);
        x.book(-1, 0);
        Check.holds("30 the total is another one", x.total() != total);
        Check.due("31 five years", x.undo(), 5);
        Check.due("31 measures", x.told(1), 10);
        int[] settings = {4, 9, 5, 2};
        for (int what = 0; what < 4; what++) {
            Check.due("31 setting " + what, x.told(2 + what), settings[what]);
        }
        Check.due("31 five seen", x.count(0), 5);
        Check.due("31 eight events", x.count(1), 8);
        Check.due("31 eight booked", x.count(2), 8);
        Check.due("31 the total", x.total(), total);
        Check.due("31 after", x.after(0), after);
        Check.due("31 looked", x.looked(), -5);
        Check.due("31 a sixth year", x.year(0, 0), -4);
        Check.due("31 an eleventh measure", x.measure(0, 1, 1), -4);
        Check.due("31 a sixth seen", x.see(0, 0), -4);
        Check.due("31 a ninth event", x.event(2, 0), -4);
        Check.due("31 a ninth row of the book", x.book(0, 0), -4);
    }

    private static void imageOnceMore() {
        PermitBank x = Check.bank("y1,1");
        x.image();
        x.year(2, 2);
        Check.due("30 the newer", x.image(), 2);
        x.year(3, 3);
        Check.due("31 the newer", x.undo(), 2);
        Check.due("31 as the newer", x.of(1, 0), 2);
        x.renew(0, 0, 9);
        Check.due("31 twice", x.undo(), 2);
        Check.due("31 the same again", x.of(0, 0), 1);
        // What comes behind undo doesn't come into the image.
        x.set(0, 7);
        x.see(0, 0);
        x.undo();
        Check.due("31 floor of the image", x.told(2), 0);
        Check.due("31 none seen in the image", x.count(0), 0);
    }

    private static void textAndTapesStay() {
        PermitBank x = Check.bank("y1,1");
        Check.feed(x, "f");
        x.tape(0, INTS, 2);
        x.image();
        Check.feed(x, "1");
        x.item(0, 1, 5);
        x.tape(1, LONGS, 1);
        x.undo();
        Check.due("31 the text stays", x.count(3), 2);
        Check.due("31 an item stays", x.peek(0, 1), 5);
        Check.due("31 a tape stays", x.peek(1, 0), 0);
        Check.due("31 and is read", x.read(), 1);
        Check.due("31 as it was fed", x.told(2), 1);
        x.tape(0, -1, 0);
        x.undo();
        Check.due("31 nothing stays nothing", x.item(0, 0, 0), -11);
        Check.due("31 an empty text stays empty", x.count(3), 0);
    }

    private static void counts() {
        PermitBank x = Banks.full();
        int[] most = {5, 8, 8, 100};
        for (int what = 0; what < 4; what++) {
            Check.due("32 most of " + what, x.count(what), most[what]);
        }
        Check.due("32 below", x.count(-1), -2);
        Check.due("32 above", x.count(4), -2);
        Check.due("32 far below", x.count(Integer.MIN_VALUE), -2);
        Check.due("32 far above", x.count(Integer.MAX_VALUE), -2);
    }

    private static void sixTapes() {
        PermitBank x = new PermitBank();
        for (int tape = -1; tape <= 6; tape++) {
            boolean there = tape >= 0 && tape <= 5;
            Check.due("33 tape " + tape, x.tape(tape, LONGS, 2), there ? 1 : -1);
            Check.due("34 item of " + tape, x.item(tape, 1, 10 + tape), there ? 1 : -1);
        }
        for (int tape = -1; tape <= 6; tape++) {
            Check.due("35 each its own, " + tape, x.peek(tape, 1), tape >= 0 && tape <= 5 ? 10 + tape : NO);
        }
    }

    private static void noneToSixty() {
        for (int sort = 0; sort <= 4; sort++) {
            for (int n = 0; n <= 60; n++) {
                PermitBank x = new PermitBank();
                Check.due("33 sort " + sort + ", n " + n, x.tape(0, sort, n), 1);
                Check.due("35 the last of " + n, x.peek(0, n - 1), n == 0 ? NO : 0);
                Check.due("35 behind the last of " + n, x.peek(0, n), NO);
                Check.due("34 the last of " + n, x.item(0, n - 1, 1), n == 0 ? -13 : 1);
                Check.due("34 behind the last of " + n, x.item(0, n, 1), -13);
                Check.due("35 it is so, " + n, x.peek(0, n - 1), n == 0 ? NO : 1);
            }
            PermitBank x = new PermitBank();
            Check.due("33 sort " + sort + ", n 61", x.tape(0, sort, 61), -2);
            Check.due("33 sort " + sort + ", n -1", x.tape(0, sort, -1), -14);
            Check.due("33 nothing came", x.item(0, 0, 0), -11);
        }
    }

    private static void nothingAnew() {
        PermitBank x = new PermitBank();
        for (int n : new int[] {0, 60, 61, -1, Integer.MIN_VALUE, Integer.MAX_VALUE}) {
            Check.due("33 a row", x.tape(2, BYTES, 60), 1);
            Check.due("34 an item", x.item(2, 30, 9), 1);
            Check.due("33 nothing, n " + n, x.tape(2, -1, n), 1);
            Check.due("34 nothing is there", x.item(2, 30, 9), -11);
            Check.due("35 nothing is there", x.peek(2, 30), NO);
            Check.due("36 nothing is there", x.shift(2, 0, 2, 0, 0), -11);
        }
        Check.due("33 a row again", x.tape(2, BYTES, 60), 1);
        for (int i = 0; i < 60; i++) {
            Check.due("33 all 0, place " + i, x.peek(2, i), 0);
            x.item(2, i, 1 + i);
        }
        // Refused, it stays as it was.
        Check.due("33 n 61", x.tape(2, BYTES, 61), -2);
        Check.due("33 n -1", x.tape(2, BYTES, -1), -14);
        Check.due("33 sort 5", x.tape(2, 5, 1), -2);
        Check.due("33 sort -2", x.tape(2, -2, 1), -2);
        Check.due("35 the last as it was", x.peek(2, 59), 60);
        // A shorter row, then a longer one: all 0 anew.
        x.tape(2, BYTES, 1);
        Check.due("35 a row of 1", x.peek(2, 1), NO);
        x.tape(2, BYTES, 60);
        Check.due("33 0 again", x.peek(2, 59), 0);
    }

    private static void wraps(int sort, long[] given, long[] due) {
        PermitBank x = new PermitBank();
        x.tape(0, sort, 60);
        for (int k = 0; k < given.length; k++) {
            Check.due("34 sort " + sort + ": " + given[k], x.item(0, k, given[k]), 1);
            Check.due("35 sort " + sort + ": " + given[k], x.peek(0, k), due[k]);
        }
    }

    private static void bytesWrap() {
        wraps(BYTES, new long[] {0, 1, -1, 127, 128, 255, 256, -128, -129, -256, 383, 384, 1L << 32,
            Long.MAX_VALUE, Long.MIN_VALUE, Long.MIN_VALUE + 5},
            new long[] {0, 1, -1, 127, -128, -1, 0, -128, 127, 0, 127, -128, 0, -1, 0, 5});
    }

    private static void shortsWrap() {
        wraps(SHORTS, new long[] {0, 1, -1, 255, 256, 32767, 32768, 65535, 65536, -32768, -32769, 1L << 32,
            Long.MAX_VALUE, Long.MIN_VALUE, Long.MIN_VALUE + 5},
            new long[] {0, 1, -1, 255, 256, 32767, -32768, -1, 0, -32768, 32767, 0, -1, 0, 5});
    }

    private static void intsWrap() {
        wraps(INTS, new long[] {0, 1, -1, 65536, Integer.MAX_VALUE, Integer.MAX_VALUE + 1L, 4294967295L, 4294967296L,
            Integer.MIN_VALUE, Integer.MIN_VALUE - 1L, Long.MAX_VALUE, Long.MIN_VALUE, Long.MIN_VALUE + 5},
            new long[] {0, 1, -1, 65536, Integer.MAX_VALUE, Integer.MIN_VALUE, -1, 0, Integer.MIN_VALUE,
                Integer.MAX_VALUE, -1, 0, 5});
    }

    private static void longsDont() {
        long[] all = {0, 1, -1, 1L << 32, Integer.MAX_VALUE + 1L, Long.MAX_VALUE, Long.MIN_VALUE, Long.MIN_VALUE + 1};
        wraps(LONGS, all, all);
    }

    private static void booleans() {
        wraps(BOOLEANS, new long[] {0, 1, -1, 2, 256, 65536, 1L << 32, 1L << 62, Long.MAX_VALUE, Long.MIN_VALUE},
            new long[] {0, 1, 1, 1, 1, 1, 1, 1, 1, 1});
    }

    private static void peekedPlaces() {
        PermitBank x = new PermitBank();
        x.tape(0, LONGS, 3);
        fill(x, 0, 0, 11, 12, 13);
        int[] beyond = {-1, 3, -3, 59, 60, 256, 65536, Integer.MIN_VALUE, Integer.MAX_VALUE};
        for (int i : beyond) {
            Check.due("35 no place " + i, x.peek(0, i), NO);
            Check.due("34 no place " + i, x.item(0, i, 9), -13);
        }
        for (int i = 0; i < 3; i++) {
            Check.due("35 place " + i, x.peek(0, i), 11 + i);
        }
    }

    private static void row(String what, PermitBank x, int tape, long... due) {
        for (int i = 0; i < due.length; i++) {
            Check.due(what + ", place " + i, x.peek(tape, i), due[i]);
        }
    }

    private static PermitBank twoTapes() {
        PermitBank x = new PermitBank();
        x.tape(0, LONGS, 5);
        x.tape(1, LONGS, 4);
        fill(x, 0, 0, 1, 2, 3, 4, 5);
        fill(x, 1, 0, 11, 12, 13, 14);
        return x;
    }

    private static void shiftedAsTheyWere() {
        PermitBank up = twoTapes();
        Check.due("36 up", up.shift(0, 0, 0, 1, 4), 4);
        row("36 up", up, 0, 1, 1, 2, 3, 4);
        PermitBank down = twoTapes();
        Check.due("36 down", down.shift(0, 1, 0, 0, 4), 4);
        row("36 down", down, 0, 2, 3, 4, 5, 5);
        PermitBank by2 = twoTapes();
        Check.due("36 up by 2", by2.shift(0, 0, 0, 2, 3), 3);
        row("36 up by 2", by2, 0, 1, 2, 1, 2, 3);
        PermitBank same = twoTapes();
        Check.due("36 to itself", same.shift(0, 0, 0, 0, 5), 5);
        row("36 to itself", same, 0, 1, 2, 3, 4, 5);
        PermitBank other = twoTapes();
        Check.due("36 to another", other.shift(0, 1, 1, 1, 3), 3);
        row("36 there", other, 1, 11, 2, 3, 4);
        row("36 here they stay", other, 0, 1, 2, 3, 4, 5);
    }

    /** shift(0, i, 1, j, n) of rows of 5 and 4, for all i, j, n around their ends. */
    private static void shiftedToTheEnds() {
        for (int i = -1; i <= 6; i++) {
            for (int j = -1; j <= 5; j++) {
                for (int n = -1; n <= 6; n++) {
                    boolean fits = i >= 0 && j >= 0 && n >= 0 && i + n <= 5 && j + n <= 4;
                    PermitBank x = twoTapes();
                    String what = "36 shift(0, " + i + ", 1, " + j + ", " + n + ")";
                    Check.due(what, x.shift(0, i, 1, j, n), fits ? n : -13);
                    for (int k = 0; k < 4; k++) {
                        boolean came = fits && k >= j && k < j + n;
                        Check.due(what + ", place " + k, x.peek(1, k), came ? 1 + i + k - j : 11 + k);
                    }
                }
            }
        }
        int[] far = {Integer.MIN_VALUE, Integer.MIN_VALUE + 5, Integer.MAX_VALUE - 3, Integer.MAX_VALUE};
        for (int v : far) {
            PermitBank x = twoTapes();
            Check.due("36 i " + v, x.shift(0, v, 1, 0, 4), -13);
            Check.due("36 j " + v, x.shift(0, 0, 1, v, 4), -13);
            Check.due("36 n " + v, x.shift(0, 1, 1, 1, v), -13);
            Check.due("36 all " + v, x.shift(0, v, 1, v, v), -13);
            row("36 nothing came", x, 1, 11, 12, 13, 14);
        }
    }

    private static void shiftedOfEachSort() {
        for (int sort = 0; sort <= 4; sort++) {
            for (int other = 0; other <= 4; other++) {
                PermitBank x = new PermitBank();
                x.tape(0, sort, 60);
                x.tape(5, other, 60);
                x.item(0, 59, 1);
                Check.due("36 sort " + sort + " to " + other, x.shift(0, 0, 5, 0, 60), sort == other ? 60 : -12);
                Check.due("36 the last of 60", x.peek(5, 59), sort == other ? 1 : 0);
                Check.due("36 none", x.shift(0, 60, 5, 60, 0), sort == other ? 0 : -12);
                Check.due("36 61", x.shift(0, 0, 5, 0, 61), sort == other ? -13 : -12);
            }
        }
        PermitBank x = new PermitBank();
        x.tape(0, BYTES, 0);
        x.tape(1, BYTES, 0);
        Check.due("36 none of none", x.shift(0, 0, 1, 0, 0), 0);
        Check.due("36 one of none", x.shift(0, 0, 1, 0, 1), -13);
        Check.due("36 from 1 of none", x.shift(0, 1, 1, 0, 0), -13);
        Check.due("36 to 1 of none", x.shift(0, 0, 1, 1, 0), -13);
        Check.due("36 nothing there", x.shift(0, 0, 2, 0, 0), -11);
        Check.due("36 nothing here", x.shift(2, 0, 0, 0, 0), -11);
    }
}

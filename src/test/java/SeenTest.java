/** Promises 21 to 28: seen, odds, means, events, books. */
public final class SeenTest {
    private static final long NO = PermitBank.NO;

    public static void main(String[] args) {
        seeing();
        fitting();
        odds();
        means();
        events();
        after();
        books();
        looking();
        Check.end();
    }

    private static void seeing() {
        PermitBank x = Check.bank("y1,1;y1,1");
        Check.due("21 year 2", x.see(2, 0), -1);
        Check.due("21 year -2", x.see(-2, 0), -1);
        Check.due("21 none ahead of bad", x.see(2, 99), -1);
        Check.due("21 price -1", x.see(0, -1), -2);
        Check.due("21 price 21", x.see(0, 21), -2);
        for (int k = 1; k <= 5; k++) {
            Check.due("21 row " + k, x.see(k % 2, k * 4), k);
        }
        Check.due("21 full", x.see(0, 0), -4);
        Check.due("21 bad ahead of full", x.see(0, 21), -2);
        Check.due("32 seen", x.count(0), 5);
        Check.due("21 emptied", x.see(-1, 99), 0);
        Check.due("32 none seen", x.count(0), 0);
        Check.due("21 again", x.see(1, 20), 1);
    }

    private static void fitting() {
        PermitBank x = Check.bank("y10,20;m05,4;m07,6");
        Check.due("22 all fit", x.fits(0, 0), 11);
        Check.due("22 the least of all", x.fits(0, 1), 0);
        // 5 from 11 to 14, 7 from 15 to 20.
        x.see(0, 5);
        Check.due("22 at 5", x.fits(0, 0), 2);
        Check.due("22 the least at 5", x.fits(0, 1), 12);
        x.see(0, 5);
        Check.due("22 twice the same", x.fits(0, 0), 2);
        x.see(0, 7);
        Check.due("22 none fits", x.fits(0, 0), 0);
        Check.due("22 the least of none", x.fits(0, 1), -5);
        x.see(-1, 0);
        x.see(0, 7);
        Check.due("22 at 7", x.fits(0, 0), 3);
        Check.due("22 the least at 7", x.fits(0, 1), 16);
        Check.due("22 changes nothing", x.of(0, 1), 20);
        Check.due("22 what 2", x.fits(0, 2), -1);
        Check.due("22 what -1", x.fits(0, -1), -1);
        Check.due("22 year 1", x.fits(1, 0), -1);
        Check.due("22 year -1", x.fits(-1, 0), -1);
        // Another year's emission says nothing of a year that stands alone.
        x.renew(1, 0, 40);
        x.year(0, 0);
        Check.due("22 not by another", x.fits(1, 0), 0);
    }

    private static void odds() {
        PermitBank x = Check.bank("y10,6;m05,2;c4");
        // 20 by 0 to 3, 5 by 4 and 5, 0 by 6 to 9.
        Check.due("23 above", x.odds(0, 0), 3);
        Check.due("23 below", x.odds(0, 1), 5);
        x.set(1, 5);
        Check.due("23 5 isn't above 5", x.odds(0, 0), 2);
        Check.due("23 of 5", x.odds(0, 1), 5);
        x.set(1, 20);
        Check.due("23 never", x.odds(0, 0), 0);
        Check.due("23 never, below", x.odds(0, 1), 1);
        x.set(1, 4);
        x.renew(1, 0, 40);
        Check.due("23 always", x.odds(0, 0), 1);
        Check.due("23 always, below", x.odds(0, 1), 1);
        Check.due("23 changes nothing", x.of(0, 0), 10);
        Check.due("23 part 2", x.odds(0, 2), NO);
        Check.due("23 part -1", x.odds(0, -1), NO);
        Check.due("23 year 1", x.odds(1, 0), NO);
        Check.due("23 year -1", x.odds(-1, 0), NO);
        // What is given lowers it.
        x.renew(1, 0, 6);
        x.set(2, 6);
        Check.due("23 with a stock", x.odds(0, 0), 0);
    }

    private static void means() {
        PermitBank x = new PermitBank();
        Check.due("24 no years", x.mean(0), NO);
        Check.due("24 no years, below", x.mean(1), NO);
        Check.read(x, "y0,1;y0,5;m15,9;y1,1");
        Check.due("24 25 by 3", x.mean(0), 25);
        Check.due("24 25 by 3, below", x.mean(1), 3);
        Check.read(x, "y1,1;y1,1");
        Check.due("24 25 by 5", x.mean(0), 5);
        Check.due("24 25 by 5, below", x.mean(1), 1);
        Check.due("24 part 2", x.mean(2), NO);
        Check.due("24 part -1", x.mean(-1), NO);
        PermitBank z = Check.bank("y1,1;y1,1");
        Check.due("24 nothing", z.mean(0), 0);
        Check.due("24 nothing, below", z.mean(1), 1);
        PermitBank w = Check.bank("y0,1;y0,5;m15,9;y0,5;m25,9;y9,9");
        Check.due("24 30 by 4", w.mean(0), 15);
        Check.due("24 30 by 4, below", w.mean(1), 2);
    }

    private static void events() {
        PermitBank x = Check.bank("y1,1;y1,1");
        Check.due("25 what 4", x.event(4, 0), -1);
        Check.due("25 what -2", x.event(-2, 0), -1);
        Check.due("25 cap of 2", x.event(0, 2), -1);
        Check.due("25 emission of 2", x.event(1, 2), -1);
        Check.due("25 cap of -1", x.event(0, -1), -1);
        Check.due("25 emission of -1", x.event(1, -1), -1);
        Check.due("25 limit 6", x.event(2, 6), -2);
        Check.due("25 limit -1", x.event(2, -1), -2);
        Check.due("25 floor 21", x.event(3, 21), -2);
        Check.due("25 floor -1", x.event(3, -1), -2);
        int[] most = {1, 1, 5, 20};
        for (int k = 0; k < 8; k++) {
            Check.due("25 row " + k, x.event(k % 4, k < 4 ? most[k] : 0), k + 1);
        }
        Check.due("25 full", x.event(0, 0), -4);
        Check.due("25 none ahead of full", x.event(0, 2), -1);
        Check.due("25 bad ahead of full", x.event(2, 6), -2);
        Check.due("32 events", x.count(1), 8);
        Check.due("25 emptied", x.event(-1, 99), 0);
        Check.due("32 no events", x.count(1), 0);
    }

    private static void after(String what, PermitBank x, long total, int groups, int reserve) {
        Check.due("26 " + what + ": total", x.after(0), total);
        Check.due("26 " + what + ": groups", x.after(1), groups);
        Check.due("26 " + what + ": reserve", x.after(2), reserve);
    }

    private static void after() {
        PermitBank x = new PermitBank();
        after("nothing", x, 0, 0, 0);
        Check.due("26 what 3", x.after(3), NO);
        Check.due("26 what -1", x.after(-1), NO);
        Check.read(x, "y5,4;y9,9;s7");
        after("no events", x, 0, 2, 7);
        x.event(0, 1);
        after("cap gone", x, 8 * 20, 1, 7);
        x.event(1, 0);
        after("emission 5 more", x, (8 + 5) * 20 - 20 + 20, 2, 7);
        x.event(-1, 0);
        x.event(3, 1);
        after("floor", x, 2 * 20, 2, 10);
        x.event(3, 0);
        after("the last floor holds", x, 0, 2, 7);
        x.event(-1, 0);
        x.event(1, 0);
        after("emission 9", x, 4 * 20, 2, 7);
        x.event(2, 4);
        after("limit", x, 4 * 20, 2, 7);
        x.renew(1, 1, 5);
        after("a limit that helps", x, 0, 2, 7);
        Check.due("26 changes nothing", x.told(5), 0);
        x.event(-1, 0);
        x.renew(1, 1, 38);
        x.event(1, 1);
        x.event(1, 1);
        after("40 at most", x, (31 - 1) * 20, 1, 7);
        Check.due("26 emission as it was", x.of(1, 1), 38);
    }

    private static void books() {
        PermitBank x = Check.bank("y1,1;y1,1");
        Check.due("27 year 2", x.book(2, 0), -1);
        Check.due("27 year -2", x.book(-2, 0), -1);
        Check.due("27 none ahead of bad", x.book(2, 99), -1);
        Check.due("27 price -1", x.book(1, -1), -2);
        Check.due("27 price 21", x.book(1, 21), -2);
        for (int k = 1; k <= 8; k++) {
            Check.due("27 row " + k, x.book(k % 2, k == 1 ? 20 : 0), k);
        }
        Check.due("27 full", x.book(0, 0), -4);
        Check.due("27 bad ahead of full", x.book(0, 21), -2);
        Check.due("32 book", x.count(2), 8);
        Check.due("27 emptied", x.book(-1, -99), 0);
        Check.due("32 no book", x.count(2), 0);
    }

    private static void looking() {
        PermitBank x = Check.bank("y0,1;y1,1");
        Check.due("28 empty", x.looked(), -5);
        x.book(0, 20);
        Check.due("28 as told", x.looked(), -5);
        x.book(1, 0);
        x.book(1, 3);
        x.book(0, 4);
        Check.due("28 row 2", x.looked(), 2);
        x.renew(0, 0, 1);
        Check.due("28 row 0", x.looked(), 0);
        x.book(-1, 0);
        Check.due("28 emptied", x.looked(), -5);
    }
}

/** Promises 21 to 28: the ends of what is seen, likely, in the mean, happens and is booked. */
public final class SeenBoundsTest {
    private static final long NO = PermitBank.NO;

    public static void main(String[] args) {
        fiveRowsSeen();
        everyPriceSeen();
        fitsByNone();
        fitsAtTheEnds();
        fitsBetween();
        fitsByAllRows();
        everyOdds();
        oddsAtTheCeiling();
        everyMean();
        eightEvents();
        capIsZero();
        fortyAtMost();
        limitAndFloor();
        oneBehindTheOther();
        eightRowsBooked();
        firstOtherwise();
        measuresOfLaterYears();
        Check.end();
    }

    private static void fiveRowsSeen() {
        PermitBank x = Check.bank("y0,5;y5,5");
        for (int k = 1; k <= 5; k++) {
            Check.due("21 row " + k, x.see(0, 20), k);
            Check.due("32 rows " + k, x.count(0), k);
        }
        Check.due("21 a sixth", x.see(1, 3), -4);
        Check.due("32 five stand", x.count(0), 5);
        Check.due("22 the sixth isn't seen", x.fits(1, 0), 11);
        Check.due("21 none then", x.see(-1, 21), 0);
        Check.due("32 none", x.count(0), 0);
        Check.due("21 none again", x.see(-1, 0), 0);
        for (int k = 1; k <= 5; k++) {
            Check.due("21 row " + k + " again", x.see(1, k), k);
        }
        Check.due("21 full again", x.see(1, 1), -4);
    }

    private static void everyPriceSeen() {
        for (int price = -2; price <= 23; price++) {
            PermitBank x = Check.bank("y0,5");
            boolean taken = price >= 0 && price <= 20;
            Check.due("21 price " + price, x.see(0, price), taken ? 1 : -2);
            Check.due("32 seen behind " + price, x.count(0), taken ? 1 : 0);
            Check.due("27 price " + price, x.book(0, price), taken ? 1 : -2);
            Check.due("32 booked behind " + price, x.count(2), taken ? 1 : 0);
            Check.due("28 behind " + price, x.looked(), taken && price != 20 ? 0 : -5);
        }
    }

    private static void fitsByNone() {
        PermitBank x = Check.bank("y0,5");
        Check.due("22 nothing seen, all fit", x.fits(0, 0), 11);
        Check.due("22 nothing seen, the least", x.fits(0, 1), 0);
        x.see(0, 7);
        Check.due("22 none fits", x.fits(0, 0), 0);
        Check.due("22 the least of none", x.fits(0, 1), -5);
        // Just an odd emission, 11, would do.
        PermitBank z = Check.bank("y10,5;m05,1");
        z.see(0, 5);
        Check.due("22 odd ones aren't tried", z.fits(0, 0), 0);
        Check.due("22 odd ones aren't the least", z.fits(0, 1), -5);
    }

    private static void fitsAtTheEnds() {
        PermitBank least = Check.bank("y0,5");
        least.see(0, 0);
        Check.due("22 by 0 alone", least.fits(0, 0), 1);
        Check.due("22 0 is the least", least.fits(0, 1), 0);
        PermitBank most = Check.bank("y19,5");
        most.see(0, 20);
        Check.due("22 by 20 alone", most.fits(0, 0), 1);
        Check.due("22 20 is the least", most.fits(0, 1), 20);
        PermitBank beyond = Check.bank("y20,5");
        beyond.see(0, 20);
        Check.due("22 22 isn't tried", beyond.fits(0, 0), 0);
        Check.due("22 its own emission stays", beyond.of(0, 1), 5);
    }

    private static void fitsBetween() {
        for (int cap = 0; cap <= 20; cap++) {
            PermitBank x = Check.bank("y" + cap + ",40");
            x.see(0, 20);
            int first = cap + 2 - cap % 2;
            Check.due("22 above " + cap, x.fits(0, 0), first > 20 ? 0 : (20 - first) / 2 + 1);
            Check.due("22 the least above " + cap, x.fits(0, 1), first > 20 ? -5 : first);
            x.see(-1, 0);
            x.see(0, 0);
            Check.due("22 up to " + cap, x.fits(0, 0), cap / 2 + 1);
            Check.due("22 the least up to " + cap, x.fits(0, 1), 0);
        }
    }

    private static void fitsByAllRows() {
        PermitBank x = Check.bank("y10,5;m05,4;m07,6;y0,3");
        x.renew(0, 1, 3);
        for (int k = 0; k < 4; k++) {
            x.see(0, 5);
        }
        // 12 and 14 put it at 5.
        Check.due("22 four alike", x.fits(0, 0), 2);
        x.see(1, 1);
        Check.due("22 the fifth is otherwise", x.fits(0, 0), 0);
        x.see(-1, 0);
        x.see(1, 0);
        x.see(0, 7);
        // 16, 18, 20.
        Check.due("22 both years", x.fits(0, 0), 3);
        Check.due("22 the least of both", x.fits(0, 1), 16);
        Check.due("22 by the other year's emission", x.fits(1, 0), 0);
    }

    private static void everyOdds() {
        int[] above = {0, 1, 1, 3, 2, 1, 3, 7, 4, 9, 1};
        int[] below = {1, 10, 5, 10, 5, 2, 5, 10, 5, 10, 1};
        for (int emission = 0; emission <= 10; emission++) {
            PermitBank x = Check.bank("y5," + emission + ";c19");
            Check.due("23 above, " + emission, x.odds(0, 0), above[emission]);
            Check.due("23 below, " + emission, x.odds(0, 1), below[emission]);
        }
        PermitBank x = Check.bank("y20,11;c19");
        Check.due("23 no cap of 10", x.odds(0, 0), 1);
        Check.due("23 no cap of 10, below", x.odds(0, 1), 1);
        Check.due("23 its own cap stays", x.of(0, 0), 20);
    }

    private static void oddsAtTheCeiling() {
        // At 5 by caps 4 to 9, at 20 by less.
        PermitBank x = Check.bank("y0,10;m05,6");
        int[] ceilings = {0, 4, 5, 19, 20};
        int[] above = {1, 1, 2, 2, 0};
        int[] below = {1, 1, 5, 5, 1};
        for (int k = 0; k < ceilings.length; k++) {
            x.set(1, ceilings[k]);
            Check.due("23 above " + ceilings[k], x.odds(0, 0), above[k]);
            Check.due("23 above " + ceilings[k] + ", below", x.odds(0, 1), below[k]);
        }
    }

    private static void mean(String text, int above, int below) {
        PermitBank x = Check.bank(text);
        Check.due("24 above, " + text, x.mean(0), above);
        Check.due("24 below, " + text, x.mean(1), below);
    }

    private static void everyMean() {
        Check.due("24 none", new PermitBank().mean(0), NO);
        Check.due("24 none, below", new PermitBank().mean(1), NO);
        mean("y0,0", 0, 1);
        mean("y1,1;y1,1;y1,1;y1,1;y1,1", 0, 1);
        mean("y0,1", 20, 1);
        mean("y0,1;y0,1;y0,1;y0,1;y0,1", 20, 1);
        mean("y0,1;m07,1", 7, 1);
        mean("y0,1;y1,1", 10, 1);
        mean("y0,1;m05,1;y1,1", 5, 2);
        mean("y0,1;y1,1;y1,1", 20, 3);
        mean("y0,1;y0,1;y1,1", 40, 3);
        mean("y0,1;y1,1;y1,1;y1,1", 5, 1);
        mean("y0,1;m06,1;y1,1;y1,1;y1,1", 3, 2);
        mean("y0,1;m05,1;y1,1;y1,1;y1,1", 5, 4);
        mean("y0,1;m06,1;y1,1;y1,1;y1,1;y1,1", 6, 5);
        mean("y0,1;m05,1;y1,1;y1,1;y1,1;y1,1", 1, 1);
        mean("y0,1;m01,1;y1,1;y1,1;y1,1;y1,1", 1, 5);
    }

    private static void eightEvents() {
        PermitBank x = Check.bank("y0,0;y9,9");
        for (int k = 1; k <= 8; k++) {
            Check.due("25 row " + k, x.event(1, 0), k);
            Check.due("32 rows " + k, x.count(1), k);
        }
        Check.due("26 all eight", x.after(0), 40 * 20);
        Check.due("25 a ninth", x.event(0, 1), -4);
        Check.due("32 eight stand", x.count(1), 8);
        Check.due("26 the ninth doesn't happen", x.after(0), 40 * 20);
        Check.due("25 none then", x.event(-1, 21), 0);
        Check.due("32 none", x.count(1), 0);
        Check.due("26 none happens", x.after(0), 0);
        Check.due("25 the first again", x.event(0, 1), 1);
        int[] least = {0, 0, 0, 0};
        int[] most = {1, 1, 5, 20};
        for (int what = 0; what < 4; what++) {
            Check.due("25 least of " + what, x.event(what, least[what]), 2 + what);
        }
        x.event(-1, 0);
        for (int what = 0; what < 4; what++) {
            Check.due("25 most of " + what, x.event(what, most[what]), 1 + what);
            Check.due("25 above most of " + what, x.event(what, most[what] + 1), what < 2 ? -1 : -2);
        }
    }

    private static void capIsZero() {
        PermitBank x = Check.bank("y20,5;y20,6");
        x.event(0, 1);
        // Year 0 keeps 15 for year 1.
        Check.due("26 the second's", x.after(0), 0);
        x.event(0, 0);
        Check.due("26 both", x.after(0), 11 * 20);
        x.event(0, 0);
        Check.due("26 twice the same", x.after(0), 11 * 20);
        Check.due("26 caps stay", x.of(0, 0) + x.of(1, 0), 40);
        PermitBank z = Check.bank("y20,5;y20,6");
        z.event(0, 0);
        Check.due("26 the first's", z.after(0), 5 * 20);
        Check.due("26 its groups", z.after(1), 2);
    }

    private static void fortyAtMost() {
        int[] emissions = {0, 34, 35, 36, 39, 40};
        int[] then = {5, 39, 40, 40, 40, 40};
        for (int k = 0; k < emissions.length; k++) {
            PermitBank x = Check.bank("y0," + emissions[k]);
            x.event(1, 0);
            Check.due("26 5 more than " + emissions[k], x.after(0), then[k] * 20);
            x.event(1, 0);
            Check.due("26 10 more than " + emissions[k], x.after(0), Math.min(40, emissions[k] + 10) * 20);
            Check.due("26 emission stays", x.of(0, 1), emissions[k]);
        }
    }

    private static void limitAndFloor() {
        for (int n = 0; n <= 5; n++) {
            PermitBank x = Check.bank("y0,9;y9,0;l3");
            x.event(2, n);
            Check.due("26 limit " + n, x.after(0), (9 - n) * 20);
            Check.due("26 limit stays", x.told(5), 3);
        }
        int[] floors = {0, 4, 5, 20};
        int[] reserves = {0, 0, 1, 1};
        for (int k = 0; k < floors.length; k++) {
            PermitBank x = Check.bank("y1,2;m04,1;f5");
            x.event(3, floors[k]);
            Check.due("26 floor " + floors[k], x.after(2), reserves[k]);
            Check.due("26 floor stays", x.told(2), 5);
        }
    }

    private static void oneBehindTheOther() {
        PermitBank x = Check.bank("y0,9;y9,0");
        for (int n = 0; n < 8; n++) {
            x.event(2, n % 6);
        }
        Check.due("26 the last limit holds", x.after(0), 8 * 20);
        PermitBank z = Check.bank("y9,0;s20");
        z.event(3, 20);
        Check.due("26 more than 20 in reserve", z.after(2), 29);
        z.event(3, 0);
        Check.due("26 the last floor holds", z.after(2), 20);
        z.event(0, 0);
        z.event(3, 20);
        Check.due("26 none left to take", z.after(2), 20);
    }

    private static void eightRowsBooked() {
        PermitBank x = Check.bank("y0,5;y5,5");
        for (int k = 1; k <= 8; k++) {
            Check.due("27 row " + k, x.book(0, 20), k);
            Check.due("32 rows " + k, x.count(2), k);
        }
        Check.due("27 a ninth", x.book(1, 3), -4);
        Check.due("32 eight stand", x.count(2), 8);
        Check.due("28 the ninth isn't there", x.looked(), -5);
        Check.due("27 empty then", x.book(-1, 21), 0);
        Check.due("32 none", x.count(2), 0);
        Check.due("27 the first again", x.book(1, 3), 1);
        Check.due("28 it is looked at", x.looked(), 0);
    }

    private static void firstOtherwise() {
        for (int otherwise = 0; otherwise <= 8; otherwise++) {
            PermitBank x = Check.bank("y0,5;y5,5");
            for (int k = 0; k < 8; k++) {
                int y = k % 2;
                int price = y == 0 ? 20 : 0;
                x.book(y, k >= otherwise ? price + (y == 0 ? -1 : 1) : price);
            }
            Check.due("28 otherwise from " + otherwise, x.looked(), otherwise < 8 ? otherwise : -5);
        }
        Check.due("28 no rows", new PermitBank().looked(), -5);
        Check.due("28 no rows of years", Check.bank("y0,5").looked(), -5);
    }

    private static void measuresOfLaterYears() {
        PermitBank x = Check.bank("y5,5;y4,9;m15,2;m17,3;c5");
        Check.due("8 price", x.of(1, 4), 7);
        x.see(1, 5);
        // 5 by an emission of 5 and 6.
        Check.due("22 fits", x.fits(1, 0), 1);
        Check.due("22 the least", x.fits(1, 1), 6);
        // By caps 0 to 3 it is short, by 4 to 6 at 7, by 7 and 8 at 5, by 9 at 0.
        Check.due("23 above 5", x.odds(1, 0), 7);
        Check.due("23 of 10", x.odds(1, 1), 10);
        x.set(1, 7);
        Check.due("23 above 7", x.odds(1, 0), 2);
        Check.due("23 of 5", x.odds(1, 1), 5);
        x.event(0, 1);
        Check.due("26 without a cap", x.after(0), 2 * 5 + 3 * 7 + 4 * 20);
        x.event(0, 0);
        Check.due("26 without caps", x.after(0), 2 * 5 + 3 * 7 + 4 * 20 + 5 * 20);
    }
}

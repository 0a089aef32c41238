/** Promises 1 to 5: how many years and measures there can be, and the ends of every number that is told. */
public final class YearsBoundsTest {
    private static final long NO = PermitBank.NO;

    public static void main(String[] args) {
        newObject();
        newRows();
        yearsAsTheyCome();
        fiveYears();
        everyCapAndEmission();
        tenMeasures();
        everyCostAndMuch();
        refusedOnesTakeNoNumber();
        renewWhatItWas();
        renewEachAlone();
        firstSettings();
        everySetting();
        Check.end();
    }

    private static void newObject() {
        PermitBank x = new PermitBank();
        Check.due("1 of", x.of(0, 0), -1);
        Check.due("1 about", x.about(0, 0), -1);
        Check.due("1 at", x.at(0, 0, 0), -1);
        Check.due("1 group", x.group(0, 0), -1);
        for (int what = 0; what <= 12; what++) {
            Check.due("1 told " + what, x.told(what), what == 3 ? 20 : 0);
        }
        Check.due("1 total", x.total(), 0);
        Check.due("1 alone", x.alone(0), -1);
        Check.due("1 way", x.way(0, 0), -1);
        Check.due("1 ways", x.ways(-1, 0), 0);
        Check.due("1 first of ways", x.ways(0, 0), -1);
        Check.due("1 rank", x.rank(0), -1);
        Check.due("1 merit", x.merit(0, 0), -1);
        Check.due("1 more", x.more(0), NO);
        Check.due("1 shock", x.shock(0, 0, 0), NO);
        Check.due("1 fits", x.fits(0, 0), -1);
        Check.due("1 odds", x.odds(0, 0), NO);
        Check.due("1 mean", x.mean(0), NO);
        for (int what = 0; what <= 2; what++) {
            Check.due("1 after " + what, x.after(what), 0);
        }
        Check.due("1 looked", x.looked(), -5);
        Check.due("1 judge", x.judge(0, 0), -5);
        Check.due("1 undo", x.undo(), -3);
        Check.due("1 read", x.read(), -10);
    }

    private static void newRows() {
        PermitBank x = new PermitBank();
        for (int what = 0; what <= 3; what++) {
            Check.due("1 count " + what, x.count(what), 0);
        }
        for (int tape = 0; tape <= 5; tape++) {
            Check.due("1 item of " + tape, x.item(tape, 0, 0), -11);
            Check.due("1 peek of " + tape, x.peek(tape, 0), NO);
            Check.due("1 shift of " + tape, x.shift(tape, 0, tape, 0, 0), -11);
        }
        Check.due("1 see none", x.see(-1, 0), 0);
        Check.due("1 event none", x.event(-1, 0), 0);
        Check.due("1 book none", x.book(-1, 0), 0);
        Check.due("1 see", x.see(0, 0), -1);
        Check.due("1 event of a year", x.event(0, 0), -1);
        Check.due("1 event of no year", x.event(2, 0), 1);
        Check.due("1 book", x.book(0, 0), -1);
    }

    private static void yearsAsTheyCome() {
        PermitBank x = new PermitBank();
        for (int k = 0; k < 5; k++) {
            Check.due("2 years ahead of " + k, x.told(0), k);
            Check.due("2 not yet " + k, x.of(k, 0), -1);
            Check.due("2 number " + k, x.year(k, 7 + k), k);
            Check.due("2 cap of " + k, x.of(k, 0), k);
            Check.due("2 emission of " + k, x.of(k, 1), 7 + k);
        }
    }

    private static void fiveYears() {
        PermitBank x = Check.bank("y1,2;y3,4;y5,6;y7,8;y9,10");
        Check.due("2 a sixth", x.year(20, 40), -4);
        Check.due("2 no year 5", x.of(5, 0), -1);
        Check.due("2 five stand", x.told(0), 5);
        for (int y = 0; y < 5; y++) {
            Check.due("2 cap of " + y + " behind", x.of(y, 0), 1 + 2 * y);
            Check.due("2 emission of " + y + " behind", x.of(y, 1), 2 + 2 * y);
        }
    }

    private static void everyCapAndEmission() {
        for (int cap = -2; cap <= 22; cap++) {
            for (int emission = -2; emission <= 42; emission++) {
                boolean taken = cap >= 0 && cap <= 20 && emission >= 0 && emission <= 40;
                PermitBank x = new PermitBank();
                Check.due("2 year(" + cap + ", " + emission + ")", x.year(cap, emission), taken ? 0 : -2);
                Check.due("2 its cap, " + cap, x.of(0, 0), taken ? cap : -1);
                Check.due("2 its emission, " + emission, x.of(0, 1), taken ? emission : -1);
                Check.due("2 years", x.told(0), taken ? 1 : 0);
            }
        }
    }

    private static void tenMeasures() {
        PermitBank x = Check.bank("y1,2;y3,4");
        for (int k = 0; k < 10; k++) {
            Check.due("3 measures ahead of " + k, x.told(1), k);
            Check.due("3 not yet " + k, x.about(k, 0), -1);
            Check.due("3 number " + k, x.measure(k % 2, 1 + k, 1 + k % 9), k);
        }
        Check.due("3 an eleventh", x.measure(1, 20, 9), -4);
        Check.due("3 no measure 10", x.about(10, 0), -1);
        Check.due("3 ten stand", x.told(1), 10);
        for (int k = 0; k < 10; k++) {
            Check.due("3 year of " + k, x.about(k, 0), k % 2);
            Check.due("3 cost of " + k, x.about(k, 1), 1 + k);
            Check.due("3 much of " + k, x.about(k, 2), 1 + k % 9);
        }
        Check.due("8 all of one year", x.of(0, 8), 5);
        PermitBank z = Check.bank("y1,2;m01,1;m01,1;m01,1;m01,1;m01,1;m01,1;m01,1;m01,1;m01,1;m01,1");
        Check.due("8 ten of one year", z.of(0, 8), 10);
    }

    private static void everyCostAndMuch() {
        for (int cost = -1; cost <= 22; cost++) {
            for (int much = -1; much <= 11; much++) {
                boolean taken = cost >= 1 && cost <= 20 && much >= 1 && much <= 9;
                PermitBank x = new PermitBank();
                x.year(0, 0);
                Check.due("3 measure(0, " + cost + ", " + much + ")", x.measure(0, cost, much), taken ? 0 : -2);
                Check.due("3 its cost, " + cost, x.about(0, 1), taken ? cost : -1);
                Check.due("3 its much, " + much, x.about(0, 2), taken ? much : -1);
                Check.due("3 measures", x.told(1), taken ? 1 : 0);
            }
        }
    }

    private static void refusedOnesTakeNoNumber() {
        PermitBank x = new PermitBank();
        Check.due("2 refused", x.year(21, 41), -2);
        Check.due("2 the first", x.year(20, 40), 0);
        Check.due("2 refused behind it", x.year(-1, -1), -2);
        Check.due("2 the second", x.year(0, 0), 1);
        Check.due("3 refused", x.measure(0, 21, 10), -2);
        Check.due("3 no such year", x.measure(2, 1, 1), -1);
        Check.due("3 the first", x.measure(1, 20, 9), 0);
        Check.due("3 refused behind it", x.measure(1, 0, 0), -2);
        Check.due("3 the second", x.measure(0, 1, 1), 1);
    }

    private static void renewWhatItWas() {
        int[] least = {0, 0, 1, 1};
        int[] most = {20, 40, 20, 9};
        for (int what = 0; what < 4; what++) {
            for (int v = least[what] - 1; v <= most[what] + 1; v++) {
                PermitBank x = Check.bank("y7,7;y7,7;m17,7;m17,7");
                boolean taken = v >= least[what] && v <= most[what];
                Check.due("4 renew(" + what + ", 1, " + v + ")", x.renew(what, 1, v), taken ? 7 : -2);
                Check.due("4 once more, behind " + v, x.renew(what, 1, 8), taken ? v : 7);
                Check.due("4 of the other", x.renew(what, 0, 8), 7);
            }
        }
    }

    private static void renewEachAlone() {
        PermitBank x = Check.bank("y1,2;y3,4;y5,6;y7,8;y9,10");
        for (int m = 0; m < 10; m++) {
            x.measure(m % 5, 1 + m, 9 - m % 9);
        }
        for (int what = 0; what < 4; what++) {
            int many = what < 2 ? 5 : 10;
            for (int k = 0; k < many; k++) {
                int[] was = {1 + 2 * k, 2 + 2 * k, 1 + k, 9 - k % 9};
                Check.due("4 what " + what + " of " + k, x.renew(what, k, 5), was[what]);
            }
            Check.due("4 what " + what + " of " + many, x.renew(what, many, 5), -1);
        }
        for (int k = 0; k < 10; k++) {
            Check.due("4 year stays " + k, x.about(k, 0), k % 5);
            Check.due("4 cost now " + k, x.about(k, 1), 5);
            Check.due("4 much now " + k, x.about(k, 2), 5);
        }
        Check.due("4 years stay", x.told(0), 5);
        Check.due("4 measures stay", x.told(1), 10);
    }

    private static void firstSettings() {
        int[] first = {0, 20, 0, 0};
        for (int what = 0; what < 4; what++) {
            PermitBank x = new PermitBank();
            Check.due("5 told at first " + what, x.told(2 + what), first[what]);
            Check.due("5 set at first " + what, x.set(what, 3), first[what]);
            for (int other = 0; other < 4; other++) {
                Check.due("5 others stay " + other, x.told(2 + other), other == what ? 3 : first[other]);
            }
        }
    }

    private static void everySetting() {
        int[] first = {0, 20, 0, 0};
        int[] most = {20, 20, 20, 5};
        for (int what = 0; what < 4; what++) {
            for (int v = -2; v <= 23; v++) {
                PermitBank x = new PermitBank();
                boolean taken = v >= 0 && v <= most[what];
                Check.due("5 set(" + what + ", " + v + ")", x.set(what, v), taken ? first[what] : -2);
                Check.due("5 told " + what + " behind " + v, x.told(2 + what), taken ? v : first[what]);
                Check.due("5 once more behind " + v, x.set(what, 1), taken ? v : first[what]);
            }
        }
        PermitBank x = new PermitBank();
        Check.due("5 floor above ceiling", x.set(1, 3), 20);
        Check.due("5 so it is", x.set(0, 9), 0);
    }
}

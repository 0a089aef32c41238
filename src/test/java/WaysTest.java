/** Promises 15 to 20: ways, ranks, merit, what would be. */
public final class WaysTest {
    private static final long NO = PermitBank.NO;

    public static void main(String[] args) {
        ways();
        shortWays();
        ranks();
        merits();
        more();
        shocks();
        Check.end();
    }

    private static void ways() {
        // Groups 0 to 2 and 3: all of years 0 and 1 is used, 3 of year 2 are left.
        PermitBank x = Check.bank("y9,2;y4,6;y8,10;y5,5");
        x.renew(1, 2, 10);
        int[][] want = {{0, 0, 2}, {1, 1, 4}, {0, 1, 2}};
        Check.due("15 0 to 0", x.way(0, 0), 2);
        Check.due("15 0 to 1", x.way(0, 1), 6);
        Check.due("15 1 to 1", x.way(1, 1), 0);
        Check.due("15 0 to 2", x.way(0, 2), 1);
        Check.due("15 1 to 2", x.way(1, 2), 4);
        Check.due("15 2 to 2", x.way(2, 2), 5);
        Check.due("15 3 to 3", x.way(3, 3), 5);
        Check.due("15 2 to 1", x.way(2, 1), 0);
        Check.due("15 2 to 3", x.way(2, 3), 0);
        Check.due("15 3 to 2", x.way(3, 2), 0);
        Check.due("15 from 4", x.way(4, 0), -1);
        Check.due("15 to 4", x.way(0, 4), -1);
        Check.due("15 from -1", x.way(-1, 0), -1);
        Check.due("15 to -1", x.way(0, -1), -1);
        int[][] ways = {{0, 0, 2}, {0, 1, 6}, {0, 2, 1}, {1, 2, 4}, {2, 2, 5}, {3, 3, 5}};
        Check.due("16 how many", x.ways(-1, 0), ways.length);
        Check.due("16 whatever what is", x.ways(-1, 99), ways.length);
        for (int k = 0; k < ways.length; k++) {
            for (int what = 0; what < 3; what++) {
                Check.due("16 way " + k + " what " + what, x.ways(k, what), ways[k][what]);
            }
        }
        Check.due("16 k 6", x.ways(6, 0), -1);
        Check.due("16 k -2", x.ways(-2, 0), -1);
        Check.due("16 what 3", x.ways(0, 3), -1);
        Check.due("16 what -1", x.ways(0, -1), -1);
        Check.due("16 greatest", x.ways(Integer.MAX_VALUE, 0), -1);
    }

    private static void shortWays() {
        PermitBank x = Check.bank("y3,0;y0,5");
        Check.due("16 a way of what there is", x.ways(-1, 0), 1);
        Check.due("16 from", x.ways(0, 0), 0);
        Check.due("16 to", x.ways(0, 1), 1);
        Check.due("16 how many", x.ways(0, 2), 3);
        Check.due("15 0 to 1", x.way(0, 1), 3);
        // A borrowed one is the borrower's own.
        PermitBank z = Check.bank("y0,5;y10,5;l3");
        Check.due("15 borrowed", z.way(0, 0), 3);
        Check.due("15 not from behind", z.way(1, 0), 0);
        // What was worked out ahead leaves no ways behind.
        z.set(3, 0);
        Check.due("15 no longer borrowed", z.way(0, 0), 0);
        Check.due("16 one way", z.ways(-1, 0), 1);
        x.renew(1, 1, 0);
        Check.due("15 no longer used", x.way(0, 1), 0);
        Check.due("16 no ways", x.ways(-1, 0), 0);
        Check.due("16 way 0", x.ways(0, 0), -1);
    }

    private static void ranks() {
        PermitBank x = Check.bank("y20,20;m05,4;m07,9;m05,4;m03,4;m07,1");
        int[] idle = {1, 3, 2, 0, 4};
        for (int k = 0; k < 5; k++) {
            Check.due("17 idle " + k, x.rank(k), idle[k]);
        }
        Check.due("17 rank 5", x.rank(5), -1);
        Check.due("17 rank -1", x.rank(-1), -1);
        // 10 to spare: 4 of 3, 4 of 0, 2 of 2; left are 0, 9, 2, 0, 1.
        x.renew(0, 0, 10);
        int[] busy = {1, 2, 4, 3, 0};
        for (int k = 0; k < 5; k++) {
            Check.due("17 busy " + k, x.rank(k), busy[k]);
        }
        Check.due("17 none", new PermitBank().rank(0), -1);
    }

    private static void merits() {
        PermitBank x = Check.bank("y20,20;y1,1;m05,4;m11,1;m07,9;m05,4;m03,4");
        int[] want = {4, 0, 3, 2};
        for (int k = 0; k < 4; k++) {
            Check.due("18 merit " + k, x.merit(0, k), want[k]);
        }
        Check.due("18 not so many", x.merit(0, 4), -5);
        Check.due("18 far beyond", x.merit(0, Integer.MAX_VALUE), -5);
        Check.due("18 k -1", x.merit(0, -1), -1);
        Check.due("18 other year", x.merit(1, 0), 1);
        Check.due("18 other year's end", x.merit(1, 1), -5);
        Check.due("18 year 2", x.merit(2, 0), -1);
        Check.due("18 no measures", Check.bank("y1,1").merit(0, 0), -5);
        Check.due("18 year -1", x.merit(-1, 0), -1);
    }

    private static void more() {
        PermitBank x = Check.bank("y10,20;m05,4;m05,4;m012,9;y19,9");
        Check.due("19 saves 12", x.more(0), -12);
        Check.due("19 nothing to save", x.more(1), 0);
        Check.due("19 changes nothing", x.of(0, 0), 10);
        Check.due("19 total as before", x.total(), 64);
        x.renew(0, 1, 20);
        Check.due("19 cap 20", x.more(1), NO);
        Check.due("19 year 2", x.more(2), NO);
        Check.due("19 year -1", x.more(-1), NO);
        Check.due("19 short", Check.bank("y0,9").more(0), -20);
    }

    private static void shocks() {
        PermitBank x = Check.bank("y10,20;m05,4;m05,4;m012,9;y9,0");
        Check.due("20 more by itself", x.shock(0, 0, 9), 8);
        Check.due("20 less by itself", x.shock(0, 0, -9), -7);
        Check.due("20 none", x.shock(0, 0, 0), 0);
        Check.due("20 another one that has enough", x.shock(0, 1, 9), 0);
        Check.due("20 zero at least", x.shock(1, 1, -9), 0);
        Check.due("20 no less than zero", Check.bank("y0,5").shock(0, 0, -9), -20);
        Check.due("20 just one", Check.bank("y0,5").shock(0, 0, -4), 0);
        Check.due("20 changes nothing", x.of(0, 1), 20);
        Check.due("20 n 10", x.shock(0, 0, 10), NO);
        Check.due("20 n -10", x.shock(0, 0, -10), NO);
        Check.due("20 year 2", x.shock(2, 0, 0), NO);
        Check.due("20 by 2", x.shock(0, 2, 0), NO);
        Check.due("20 year -1", x.shock(-1, 0, 0), NO);
        Check.due("20 by -1", x.shock(0, -1, 0), NO);
        // The next year's needs come to this one's group.
        PermitBank z = Check.bank("y10,12;m03,9;y5,5;m14,3");
        Check.due("20 joins", z.shock(0, 1, 9), 1);
        // Above 40 counts: 45 less 31 is no more than 20 no longer.
        PermitBank w = Check.bank("y20,40;m01,9;m02,9;m03,4");
        Check.due("20 at 40", w.of(0, 4), 3);
        Check.due("20 above 40", w.shock(0, 0, 5), 17);
    }
}

/** Promises 15 to 20: the ends and ties of ways, ranks, merit, MORE and SHOCK. */
public final class WaysBoundsTest {
    private static final long NO = PermitBank.NO;

    public static void main(String[] args) {
        noWays();
        mostWays();
        oneAtLeast();
        fromNoneBehind();
        shortFromNowhere();
        ofTheGroupAlone();
        ranksOfOneKind();
        meritOfOneCost();
        capOfTwenty();
        moreSaves();
        everyShock();
        zeroAtLeast();
        aboveForty();
        shockOfAnother();
        measuresOfLaterYears();
        Check.end();
    }

    private static void noWays() {
        PermitBank x = new PermitBank();
        Check.due("16 no years", x.ways(-1, 0), 0);
        Check.due("16 no way 0", x.ways(0, 0), -1);
        PermitBank z = Check.bank("y9,0;y0,9;y0,0");
        z.renew(1, 1, 0);
        Check.due("16 nothing used", z.ways(-1, 0), 0);
        for (int what = 0; what < 3; what++) {
            Check.due("16 nothing used, what " + what, z.ways(0, what), -1);
        }
        for (int from = 0; from < 3; from++) {
            for (int to = 0; to < 3; to++) {
                Check.due("15 nothing used, " + from + " to " + to, z.way(from, to), 0);
            }
        }
    }

    private static void mostWays() {
        PermitBank x = Check.bank("y4,2;y4,5;y4,4;y4,4;y4,5");
        Check.due("12 one group", x.told(6), 1);
        int[][] want = {{0, 0, 2}, {0, 1, 2}, {1, 1, 3}, {1, 2, 1}, {2, 2, 3}, {2, 3, 1}, {3, 3, 3}, {3, 4, 1}, {4, 4, 4}};
        Check.due("16 nine", x.ways(-1, 0), 9);
        for (int k = 0; k < 9; k++) {
            for (int what = 0; what < 3; what++) {
                Check.due("16 way " + k + " what " + what, x.ways(k, what), want[k][what]);
            }
            Check.due("15 the same way", x.way(want[k][0], want[k][1]), want[k][2]);
        }
        for (int what = 0; what < 3; what++) {
            Check.due("16 no tenth, what " + what, x.ways(9, what), -1);
        }
        int sum = 0;
        for (int from = 0; from < 5; from++) {
            for (int to = 0; to < 5; to++) {
                sum += x.way(from, to);
            }
        }
        Check.due("15 all of them together", sum, 20);
    }

    private static void oneAtLeast() {
        // Year 0 has just what it uses: none of it goes to year 1, and that is no way.
        PermitBank x = Check.bank("y3,3;y1,1;y1,0");
        Check.due("16 two", x.ways(-1, 0), 2);
        Check.due("16 the second's from", x.ways(1, 0), 1);
        Check.due("16 the second's to", x.ways(1, 1), 1);
        Check.due("16 just one", x.ways(1, 2), 1);
        Check.due("16 no third", x.ways(2, 0), -1);
        Check.due("15 none is no way", x.way(2, 2), 0);
        // One left of year 0.
        PermitBank z = Check.bank("y4,3;y1,2");
        Check.due("16 three", z.ways(-1, 0), 3);
        Check.due("16 one is a way", z.ways(1, 2), 1);
    }

    private static void fromNoneBehind() {
        // Year 0 is short, with year 1's permits in its own group.
        PermitBank x = Check.bank("y0,9;m03,9;y0,4;y9,2;m25,2");
        x.renew(0, 2, 0);
        Check.due("12 short", x.told(11) > 0 ? 1 : 0, 1);
        for (int from = 1; from < 3; from++) {
            for (int to = 0; to < from; to++) {
                Check.due("15 behind, " + from + " to " + to, x.way(from, to), 0);
            }
        }
        PermitBank z = Check.bank("y1,1;y9,4");
        Check.due("15 not from year 1", z.way(1, 0), 0);
        Check.due("15 from its own", z.way(0, 0), 1);
        Check.due("15 nor to the next that has enough", z.way(0, 1), 0);
        Check.due("15 its own to the next", z.way(1, 1), 4);
    }

    private static void shortFromNowhere() {
        PermitBank x = Check.bank("y0,5");
        Check.due("16 none", x.ways(-1, 0), 0);
        Check.due("15 none", x.way(0, 0), 0);
        PermitBank z = Check.bank("y1,0;y2,9");
        Check.due("15 all of year 0", z.way(0, 1), 1);
        Check.due("15 all of year 1", z.way(1, 1), 2);
        Check.due("16 two", z.ways(-1, 0), 2);
        Check.due("12 the rest is short", z.told(11), 6);
    }

    private static void ofTheGroupAlone() {
        // Year 0 has 5 left, but year 1 is no part of its group.
        PermitBank x = Check.bank("y9,4;y3,3;y6,2");
        Check.due("12 three groups", x.told(6), 3);
        Check.due("15 0 to 0", x.way(0, 0), 4);
        Check.due("15 0 to 1", x.way(0, 1), 0);
        Check.due("15 1 to 1", x.way(1, 1), 3);
        Check.due("15 1 to 2", x.way(1, 2), 0);
        Check.due("15 2 to 2", x.way(2, 2), 2);
    }

    private static void ranksOfOneKind() {
        // Nothing done, all of one MUCH and COST: the greatest number first.
        PermitBank x = Check.bank("y9,9;m03,4;m03,4;m03,4;m03,4;m03,4;m03,4;m03,4;m03,4;m03,4;m03,4");
        for (int k = 0; k < 10; k++) {
            Check.due("17 of one kind " + k, x.rank(k), 9 - k);
        }
        Check.due("17 no eleventh", x.rank(10), -1);
        // All done: as much is left of each, the least cost first.
        PermitBank z = Check.bank("y0,9;m05,3;m04,1;m05,4;m06,1");
        int[] want = {1, 2, 0, 3};
        for (int k = 0; k < 4; k++) {
            Check.due("17 none left " + k, z.rank(k), want[k]);
        }
        // What is left goes ahead of cost, cost ahead of number, whatever year they are of.
        PermitBank w = Check.bank("y9,9;y9,9;m01,3;m120,4;m02,4;m120,4");
        int[] order = {2, 3, 1, 0};
        for (int k = 0; k < 4; k++) {
            Check.due("17 left, cost, number " + k, w.rank(k), order[k]);
        }
        // One less left by what is done.
        w.renew(0, 0, 8);
        Check.due("17 one is done", w.rank(3), 0);
        Check.due("17 one measure", Check.bank("y0,0;m01,1").rank(0), 0);
        Check.due("17 no second", Check.bank("y0,0;m01,1").rank(1), -1);
    }

    private static void meritOfOneCost() {
        PermitBank x = Check.bank("y9,9;m03,1;m03,2;m03,3;m03,4;m03,5;m03,6;m03,7;m03,8;m03,9;m03,1");
        for (int k = 0; k < 10; k++) {
            Check.due("18 of one cost " + k, x.merit(0, k), k);
        }
        Check.due("18 not so many", x.merit(0, 10), -5);
        PermitBank z = Check.bank("y9,9;m020,1;m019,1;m01,1;m02,1;m019,9");
        int[] want = {2, 3, 1, 4, 0};
        for (int k = 0; k < 5; k++) {
            Check.due("18 by cost " + k, z.merit(0, k), want[k]);
        }
        Check.due("18 not a sixth", z.merit(0, 5), -5);
        Check.due("18 none", Check.bank("y0,0").merit(0, 0), -5);
        Check.due("18 below 0", z.merit(0, -1), -1);
        Check.due("18 far below 0", z.merit(0, Integer.MIN_VALUE), -1);
        Check.due("18 far beyond", z.merit(0, Integer.MAX_VALUE), -5);
    }

    private static void capOfTwenty() {
        PermitBank x = Check.bank("y20,40;y19,40;y18,40");
        Check.due("19 cap 20", x.more(0), NO);
        Check.due("19 cap 19", x.more(1), -20);
        Check.due("19 cap 18", x.more(2), -20);
        x.renew(0, 1, 20);
        Check.due("19 cap 20", x.more(1), NO);
        Check.due("19 caps as they were", x.of(2, 0), 18);
    }

    private static void moreSaves() {
        Check.due("19 nothing emitted", Check.bank("y0,0").more(0), 0);
        Check.due("19 a short", Check.bank("y0,1").more(0), -20);
        Check.due("19 a measure at 1", Check.bank("y0,1;m01,1").more(0), -1);
        Check.due("19 a measure at 20", Check.bank("y0,1;m020,1").more(0), -20);
        Check.due("19 the dearer of two", Check.bank("y0,2;m03,1;m07,1").more(0), -7);
        Check.due("19 just enough", Check.bank("y2,2;m03,1").more(0), 0);
        // One more is taken into the reserve again.
        Check.due("19 taken", Check.bank("y0,1;y5,5").more(1), 0);
        Check.due("19 kept for the next", Check.bank("y3,3;y1,9").more(0), -20);
    }

    private static void everyShock() {
        // 10 permits, 8 emitted; measures of 3 at 4 and of 2 at 9: up to 10 at 0, 13 at 4, 15 at 9, more at 20.
        PermitBank x = Check.bank("y10,8;m04,3;m09,2");
        for (int n = -9; n <= 9; n++) {
            int due = n <= 2 ? 0 : n <= 5 ? 4 : n <= 7 ? 9 : 20;
            Check.due("20 n " + n, x.shock(0, 0, n), due);
        }
        Check.due("20 n 10", x.shock(0, 0, 10), NO);
        Check.due("20 n -10", x.shock(0, 0, -10), NO);
        Check.due("20 as it was", x.of(0, 1), 8);
        Check.due("20 a price less", Check.bank("y0,9").shock(0, 0, -9), -20);
        Check.due("20 not less by 8", Check.bank("y0,9").shock(0, 0, -8), 0);
    }

    private static void zeroAtLeast() {
        for (int emission = 0; emission <= 9; emission++) {
            // 5 permits of year 0 go to year 1 as far as it emits less.
            PermitBank x = Check.bank("y5," + emission + ";y0,5");
            int now = emission == 0 ? 0 : 20;
            Check.due("20 price of " + emission, x.of(1, 4), now);
            Check.due("20 9 less than " + emission, x.shock(1, 0, -9), -now);
        }
        // Were it below 0, year 1 would have enough.
        PermitBank z = Check.bank("y5,3;y0,6");
        Check.due("20 no less than 0", z.shock(1, 0, -9), 0);
        Check.due("20 just 0", z.shock(1, 0, -3), 0);
    }

    private static void aboveForty() {
        PermitBank x = Check.bank("y20,40;m01,9;m02,9;m03,9;m04,2");
        Check.due("20 price at 40", x.of(0, 4), 3);
        Check.due("20 at 47", x.shock(0, 0, 7), 0);
        Check.due("20 at 48", x.shock(0, 0, 8), 1);
        Check.due("20 at 49", x.shock(0, 0, 9), 1);
        x.renew(3, 3, 1);
        Check.due("20 at 49, one less to spare", x.shock(0, 0, 9), 17);
        x.renew(1, 0, 32);
        Check.due("20 at 41", x.shock(0, 0, 9), 1);
    }

    private static void shockOfAnother() {
        PermitBank x = Check.bank("y5,3;y3,5");
        Check.due("20 one group", x.told(6), 1);
        Check.due("20 by the first", x.shock(1, 0, 1), 20);
        Check.due("20 by the second", x.shock(0, 1, 1), 20);
        Check.due("20 by itself", x.shock(1, 1, 1), 20);
        // The years part: year 0 has its own price.
        PermitBank z = Check.bank("y5,3;y0,9");
        Check.due("20 of the first", z.shock(0, 1, -9), -20);
        Check.due("20 of the second", z.shock(1, 1, -9), -20);
        Check.due("20 parted", z.shock(0, 0, 9), 0);
    }

    /** What would be goes by each YEAR's own MEASURES, and by a CAP or EMISSION of it alone. */
    private static void measuresOfLaterYears() {
        PermitBank x = Check.bank("y5,5;y0,6;m14,3;m17,3");
        Check.due("13 all six", x.total(), 3 * 4 + 3 * 7);
        Check.due("19 one less at 7", x.more(1), -7);
        Check.due("19 kept for year 1", x.more(0), -7);
        Check.due("20 three less", x.shock(1, 1, -3), -3);
        Check.due("20 none to spare", x.shock(1, 1, 1), 13);
        // Year 0 has none of year 1's measures.
        PermitBank z = Check.bank("y5,5;y3,3;m14,3;m17,3");
        Check.due("20 of the first", z.shock(0, 0, 1), 20);
        Check.due("20 of the second", z.shock(1, 1, 1), 4);
    }
}

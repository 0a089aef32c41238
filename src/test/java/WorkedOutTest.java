/** Promises 8 to 14: what is worked out. */
public final class WorkedOutTest {
    public static void main(String[] args) {
        ofYears();
        aboutMeasures();
        highAndLow();
        groups();
        takenAndGiven();
        borrowed();
        wrongNumbers();
        totals();
        alone();
        Check.end();
    }

    private static void row(String what, PermitBank x, int kind, int... want) {
        for (int y = 0; y < want.length; y++) {
            Check.due(what + " of(" + y + ", " + kind + ")", x.of(y, kind), want[y]);
        }
    }

    /** Told: groups, reserve, taken, given, borrowed, shorts, unlike. */
    private static void told(String what, PermitBank x, int... want) {
        for (int k = 0; k < want.length; k++) {
            Check.due(what + " told " + (6 + k), x.told(6 + k), want[k]);
        }
    }

    private static void ofYears() {
        // Year 0 has 6 too many, year 1 lacks 10: at 4 year 1 emits 10 at least, 15 at most.
        PermitBank x = Check.bank("y10,4;y5,15;m14,5;m19,9;y6,6");
        row("8 cap", x, 0, 10, 5, 6);
        row("8 emission", x, 1, 4, 15, 6);
        row("8 permits", x, 2, 10, 5, 6);
        row("8 group", x, 3, 0, 0, 1);
        row("8 price", x, 4, 4, 4, 0);
        row("8 used", x, 5, 4, 11, 6);
        row("8 bank", x, 6, 6, 0, 0);
        row("8 borrowed", x, 7, 0, 0, 0);
        row("8 measures", x, 8, 0, 2, 0);
        // The first year spares first, as far as its LOW goes.
        PermitBank z = Check.bank("y8,10;m05,4;y2,6;m15,3;m17,3");
        row("8 prices", z, 4, 5, 5);
        row("8 used by the first first", z, 5, 6, 4);
        row("8 banks", z, 6, 2, 0);
        // A price by which all is spared that a year emits.
        PermitBank w = Check.bank("y0,5;m03,9");
        row("8 zero at least", w, 4, 3);
        row("8 used 0", w, 5, 0);
    }

    private static void aboutMeasures() {
        PermitBank x = Check.bank("y5,20;y9,9;m08,4;m02,6;m08,4;m02,3;m11,1");
        int[] years = {0, 0, 0, 0, 1};
        int[] costs = {8, 2, 8, 2, 1};
        int[] muches = {4, 6, 4, 3, 1};
        // 15 to spare: 6 and 3 at 2, then 4 at 8, then 2 of the last.
        int[] done = {4, 6, 2, 3, 0};
        for (int m = 0; m < 5; m++) {
            Check.due("9 year " + m, x.about(m, 0), years[m]);
            Check.due("9 cost " + m, x.about(m, 1), costs[m]);
            Check.due("9 much " + m, x.about(m, 2), muches[m]);
            Check.due("9 done " + m, x.about(m, 3), done[m]);
        }
        Check.due("9 what 4", x.about(0, 4), -1);
        Check.due("9 what -1", x.about(0, -1), -1);
        Check.due("9 measure 5", x.about(5, 0), -1);
        Check.due("9 measure -1", x.about(-1, 0), -1);
    }

    private static void highAndLow() {
        PermitBank x = Check.bank("y5,10;y5,9;m04,3;m06,4;m120,9;m01,9");
        x.renew(2, 3, 6);
        int[] at = {0, 3, 4, 5, 6, 7, 20};
        int[] high = {10, 10, 10, 7, 7, 0, 0};
        int[] low = {10, 10, 7, 7, 0, 0, 0};
        for (int k = 0; k < at.length; k++) {
            Check.due("10 high at " + at[k], x.at(0, at[k], 0), high[k]);
            Check.due("10 low at " + at[k], x.at(0, at[k], 1), low[k]);
        }
        Check.due("10 high of 1 at 20", x.at(1, 20, 0), 9);
        Check.due("10 low of 1 at 20", x.at(1, 20, 1), 0);
        Check.due("10 p -1", x.at(0, -1, 0), -2);
        Check.due("10 p 21", x.at(0, 21, 1), -2);
        Check.due("10 what 2", x.at(0, 21, 2), -1);
        Check.due("10 what -1", x.at(0, 0, -1), -1);
        Check.due("10 year 2", x.at(2, 21, 0), -1);
        Check.due("10 year -1", x.at(-1, 0, 0), -1);
        // Whatever is taken or given: HIGH and LOW go by EMISSION and MEASURES alone.
        x.set(0, 20);
        Check.due("10 low with a floor", x.at(0, 4, 1), 7);
    }

    private static void groups() {
        PermitBank x = Check.bank("y10,4;y5,15;m14,5;m19,9;y6,6");
        int[][] want = {{0, 1, 4, 15, 0, 15}, {2, 2, 0, 6, 0, 6}};
        for (int g = 0; g < 2; g++) {
            for (int what = 0; what < 6; what++) {
                Check.due("11 group " + g + " what " + what, x.group(g, what), want[g][what]);
            }
            Check.due("11 what 6", x.group(g, 6), -1);
            Check.due("11 what -1", x.group(g, -1), -1);
        }
        Check.due("11 group 2", x.group(2, 0), -1);
        Check.due("11 group -1", x.group(-1, 0), -1);
        Check.due("11 no group", new PermitBank().group(0, 0), -1);
        // Alike prices don't join; a later join makes an earlier one.
        PermitBank z = Check.bank("y5,5;y5,5;y5,5");
        told("12 alike", z, 3, 0, 0, 0, 0, 0, 1);
        PermitBank w = Check.bank("y5,8;m03,9;y9,9;y0,9;m24,9;m26,9");
        // 3, 0, 4: the last two join at 4 (9 and 9 less 9), then the first comes to them.
        told("12 backwards", w, 1, 0, 0, 0, 0, 0, 1);
        Check.due("11 price of all", w.group(0, 2), 4);
        Check.due("11 short", Check.bank("y3,0;y0,5").group(0, 4), 2);
        Check.due("11 short's used", Check.bank("y3,0;y0,5").group(0, 5), 5);
        PermitBank v = Check.bank("y0,1;y1,1;m11,1;y0,9;m29,9;y9,9;y0,2;m42,2");
        // 20, 0, 9, 0, 2 by caps alone.
        told("12 unlike", v, 3, 0, 0, 0, 0, 1, 3);
        row("12 their prices", v, 4, 20, 9, 9, 2, 2);
    }

    private static void takenAndGiven() {
        PermitBank x = Check.bank("y10,5;f8");
        told("12 taken", x, 1, 6, 6, 0, 0, 1, 1);
        row("8 permits left", x, 2, 4);
        Check.due("5 ceiling", x.set(1, 10), 20);
        // What is given isn't taken again.
        told("12 given", x, 1, 5, 6, 1, 0, 0, 1);
        row("8 price behind", x, 4, 0);
        PermitBank z = Check.bank("y2,5;c10;s9");
        told("12 stock", z, 1, 6, 0, 3, 0, 0, 1);
        z.set(2, 2);
        told("12 stock too small", z, 1, 0, 0, 2, 0, 1, 1);
        z.set(1, 20);
        told("12 20 isn't above 20", z, 1, 2, 0, 0, 0, 3, 1);
        // The last year that has permits is taken from; then the one ahead of it.
        PermitBank w = Check.bank("y9,0;y5,9;f1");
        told("12 taken by the last", w, 1, 6, 6, 0, 0, 1, 1);
        row("8 permits by the last", w, 2, 8, 0);
        // The first group first; one without permits is left out.
        PermitBank v = Check.bank("y0,0;y3,0;y2,0;f1");
        told("12 none to take", v, 3, 5, 5, 0, 0, 0, 1);
        // The first year of the group that is dear is given to.
        PermitBank u = Check.bank("y4,0;y0,9;c19;s3");
        told("12 given to the first", u, 1, 0, 0, 3, 0, 2, 1);
        row("8 permits of the first", u, 2, 7, 0);
        PermitBank t = Check.bank("y0,3;y0,2;m13,9;c2;s5");
        // As soon as year 0 has enough, year 1 joins it, and year 0 is given its needs, too.
        told("12 given in order", t, 1, 0, 0, 5, 0, 0, 1);
        row("8 given in order", t, 2, 5, 0);
        PermitBank s = Check.bank("y5,9;m07,4;f7");
        told("12 a price at the floor", s, 1, 0, 0, 0, 0, 0, 1);
        s.set(0, 8);
        told("12 a price below the floor", s, 1, 1, 1, 0, 0, 1, 1);
    }

    private static void borrowed() {
        PermitBank x = Check.bank("y0,5;y10,5");
        told("12 limit 0", x, 2, 0, 0, 0, 0, 5, 2);
        x.set(3, 3);
        told("12 limit 3", x, 2, 0, 0, 0, 3, 2, 2);
        row("8 permits", x, 2, 3, 7);
        row("8 borrowed", x, 7, 3, 0);
        row("8 used", x, 5, 5, 5);
        row("8 bank", x, 6, 0, 2);
        x.set(3, 5);
        told("12 limit 5", x, 2, 0, 0, 0, 5, 0, 1);
        PermitBank z = Check.bank("y0,5;y3,0;l5");
        told("12 as far as permits go", z, 2, 0, 0, 0, 3, 2, 2);
        row("8 its permits", z, 2, 3, 0);
        // Year 0 can't have from year 1, which has none; year 1 has from year 2, as soon as they are told apart.
        PermitBank w = Check.bank("y0,3;y0,2;m15,9;y9,1;l2");
        row("8 chain borrowed", w, 7, 2, 2, 0);
        row("8 chain permits", w, 2, 2, 0, 7);
        // The last year of the dearer group borrows.
        PermitBank v = Check.bank("y2,1;y0,4;y9,0;l1");
        row("8 last of its group", v, 7, 0, 1, 0);
        row("8 first of the next", v, 2, 2, 1, 8);
    }

    private static void wrongNumbers() {
        PermitBank x = Check.bank("y1,1");
        Check.due("8 what 9", x.of(0, 9), -1);
        Check.due("8 what -1", x.of(0, -1), -1);
        Check.due("8 year 1", x.of(1, 0), -1);
        Check.due("8 year -1", x.of(-1, 0), -1);
        Check.due("12 what 13", x.told(13), -1);
        Check.due("12 what -1", x.told(-1), -1);
        Check.due("14 year 1", x.alone(1), -1);
        Check.due("14 year -1", x.alone(-1), -1);
    }

    private static void totals() {
        Check.due("13 none", new PermitBank().total(), 0);
        Check.due("13 measures", Check.bank("y5,20;m08,4;m02,6;m08,4;m02,3").total(), 6 * 8 + 9 * 2);
        Check.due("13 shorts", Check.bank("y0,40;y0,40;y0,40;y0,40;y0,40").total(), 200 * 20);
        Check.due("13 both", Check.bank("y1,9;m03,5;y9,9").total(), 5 * 3 + 3 * 20);
    }

    private static void alone() {
        PermitBank x = Check.bank("y10,4;y5,15;m14,5;m19,9;y6,6;f3;l2");
        Check.due("14 year 0", x.alone(0), 0);
        Check.due("14 year 1", x.alone(1), 9);
        Check.due("14 year 2", x.alone(2), 0);
        Check.due("14 none will do", Check.bank("y0,1").alone(0), 20);
        Check.due("14 by the cap", Check.bank("y10,5;f8").alone(0), 0);
    }
}

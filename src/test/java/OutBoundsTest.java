/** Promises 8 to 14: the ends and ties of what is worked out, a sentence of the document each. */
public final class OutBoundsTest {
    public static void main(String[] args) {
        costBelowP();
        costOfPOrBelow();
        zeroAtLeast();
        noMoreThanPermits();
        twentyIfThereIsNone();
        lowOfAllTogether();
        noGroups();
        joinedWhenBelow();
        fiveGroupsAndOne();
        priceBelowFloor();
        takenWithPermits();
        takenFromTheLast();
        priceAboveCeiling();
        reserveIsZero();
        givenBeyondCaps();
        borrowedUpToLimit();
        borrowedFromTheFirst();
        borrowedWhenAbove();
        borrowedByAll();
        takenGivenBorrowedInOrder();
        sparedByTheFirst();
        lowAtLeast();
        nothingToSpare();
        shortAndBank();
        doneTillAllOfItIs();
        totals();
        unlike();
        byCapsAlone();
        Check.end();
    }

    private static void row(String what, PermitBank x, int kind, int... want) {
        for (int y = 0; y < want.length; y++) {
            Check.due(what + ": of(" + y + ", " + kind + ")", x.of(y, kind), want[y]);
        }
    }

    private static void told(String what, PermitBank x, int kind, int want) {
        Check.due(what + ": told(" + kind + ")", x.told(kind), want);
    }

    private static PermitBank spread() {
        return Check.bank("y0,20;m01,3;m010,9;m020,4;y0,7;m11,1");
    }

    private static void costBelowP() {
        int[] p = {0, 1, 2, 9, 10, 11, 19, 20};
        int[] high = {20, 20, 17, 17, 17, 8, 8, 8};
        for (int k = 0; k < p.length; k++) {
            Check.due("10 high at " + p[k], spread().at(0, p[k], 0), high[k]);
        }
        Check.due("10 high of the other at 1", spread().at(1, 1, 0), 7);
        Check.due("10 high of the other at 2", spread().at(1, 2, 0), 6);
        Check.due("10 high of the other at 20", spread().at(1, 20, 0), 6);
    }

    private static void costOfPOrBelow() {
        int[] p = {0, 1, 2, 9, 10, 11, 19, 20};
        int[] low = {20, 17, 17, 17, 8, 8, 8, 4};
        for (int k = 0; k < p.length; k++) {
            Check.due("10 low at " + p[k], spread().at(0, p[k], 1), low[k]);
        }
        Check.due("10 low of the other at 0", spread().at(1, 0, 1), 7);
        Check.due("10 low of the other at 1", spread().at(1, 1, 1), 6);
        Check.due("10 low of the other at 20", spread().at(1, 20, 1), 6);
    }

    private static void zeroAtLeast() {
        for (int emission = 7; emission <= 10; emission++) {
            PermitBank x = Check.bank("y0," + emission + ";m05,4;m05,4");
            Check.due("10 low of " + emission, x.at(0, 5, 1), Math.max(0, emission - 8));
            Check.due("10 high of " + emission, x.at(0, 6, 0), Math.max(0, emission - 8));
            Check.due("10 high ahead of it, " + emission, x.at(0, 5, 0), emission);
        }
        PermitBank x = Check.bank("y0,40;m01,9;m01,9;m01,9;m01,9;m01,9;m01,9;m01,9;m01,9;m01,9;m01,9");
        Check.due("10 90 of 40, low", x.at(0, 1, 1), 0);
        Check.due("10 90 of 40, high", x.at(0, 2, 0), 0);
        Check.due("10 none of 0", Check.bank("y0,0;m01,1").at(0, 20, 1), 0);
    }

    private static void noMoreThanPermits() {
        row("8 as many permits", Check.bank("y5,8;m04,3"), 4, 4);
        row("8 one permit less", Check.bank("y4,8;m04,3"), 4, 20);
        row("8 one permit more", Check.bank("y6,8;m04,3"), 4, 4);
        row("8 as many without measures", Check.bank("y8,8;m04,3"), 4, 0);
        row("8 one less without measures", Check.bank("y7,8;m04,3"), 4, 4);
        row("8 two of one cost together", Check.bank("y5,9;m04,2;m04,2"), 4, 4);
        row("8 the lower cost will do", Check.bank("y5,8;m09,3;m04,3"), 4, 4);
        row("8 both costs are due", Check.bank("y4,8;m09,3;m04,3"), 4, 9);
        row("8 none emitted", Check.bank("y0,0"), 4, 0);
        row("8 cost 1", Check.bank("y5,8;m01,3"), 4, 1);
        row("8 cost 19", Check.bank("y5,8;m019,3"), 4, 19);
    }

    private static void twentyIfThereIsNone() {
        PermitBank none = Check.bank("y4,5");
        row("8 none", none, 4, 20);
        told("12 none", none, 11, 1);
        PermitBank twenty = Check.bank("y4,5;m020,1");
        row("8 twenty will do", twenty, 4, 20);
        row("8 used at twenty", twenty, 5, 4);
        told("12 twenty will do", twenty, 11, 0);
        PermitBank less = Check.bank("y3,5;m020,1");
        row("8 twenty will not do", less, 4, 20);
        told("12 twenty will not do", less, 11, 1);
        row("8 the most that can be short", Check.bank("y0,40"), 4, 20);
    }

    private static void lowOfAllTogether() {
        // What year 0 could spare beyond its emission doesn't help year 1.
        PermitBank x = Check.bank("y0,2;m03,9;y0,5;m16,3");
        told("12 joined", x, 6, 1);
        row("8 price together", x, 4, 20, 20);
        row("8 used together", x, 5, 0, 2);
        Check.due("11 short together", x.group(0, 4), 2);
        // Permits of both, LOW of both: 3 + 6 less 2 is 7.
        PermitBank z = Check.bank("y5,3;y2,6;m17,2");
        row("8 both", z, 4, 7, 7);
        Check.due("11 permits of both", z.group(0, 3), 7);
        Check.due("11 used of both", z.group(0, 5), 7);
        z.renew(0, 0, 4);
        row("8 one less", z, 4, 20, 20);
    }

    private static void noGroups() {
        PermitBank x = new PermitBank();
        told("12 none", x, 6, 0);
        Check.due("11 none", x.group(0, 0), -1);
        x.year(0, 0);
        told("12 one", x, 6, 1);
        Check.due("11 first of one", x.group(0, 0), 0);
        Check.due("11 last of one", x.group(0, 1), 0);
        Check.due("11 no second", x.group(1, 0), -1);
    }

    private static void joinedWhenBelow() {
        PermitBank below = Check.bank("y0,1;m04,1;y0,1;m15,1");
        told("12 4 below 5", below, 6, 1);
        row("8 joined at", below, 4, 5, 5);
        row("8 one group", below, 3, 0, 0);
        PermitBank alike = Check.bank("y0,1;m05,1;y0,1;m15,1");
        told("12 5 and 5", alike, 6, 2);
        row("8 two groups", alike, 3, 0, 1);
        PermitBank above = Check.bank("y0,1;m05,1;y0,1;m14,1");
        told("12 5 above 4", above, 6, 2);
        row("8 each its price", above, 4, 5, 4);
        PermitBank ends = Check.bank("y0,0;y0,1");
        told("12 0 below 20", ends, 6, 1);
        row("8 short together", ends, 4, 20, 20);
    }

    private static void fiveGroupsAndOne() {
        told("12 five alike at 0", Check.bank("y1,1;y1,1;y1,1;y1,1;y1,1"), 6, 5);
        told("12 five alike at 20", Check.bank("y0,1;y0,1;y0,1;y0,1;y0,1"), 6, 5);
        PermitBank falling = Check.bank("y0,1;m05,1;y0,1;m14,1;y0,1;m23,1;y0,1;m32,1;y0,1;m41,1");
        told("12 falling", falling, 6, 5);
        row("8 groups falling", falling, 3, 0, 1, 2, 3, 4);
        row("8 prices falling", falling, 4, 5, 4, 3, 2, 1);
        Check.due("11 the fifth", falling.group(4, 0), 4);
        Check.due("11 no sixth", falling.group(5, 0), -1);
        PermitBank rising = Check.bank("y0,1;m01,1;y0,1;m12,1;y0,1;m23,1;y0,1;m34,1;y0,1;m45,1");
        told("12 rising", rising, 6, 1);
        row("8 groups rising", rising, 3, 0, 0, 0, 0, 0);
        row("8 prices rising", rising, 4, 5, 5, 5, 5, 5);
        Check.due("11 first of all", rising.group(0, 0), 0);
        Check.due("11 last of all", rising.group(0, 1), 4);
        Check.due("11 no second", rising.group(1, 0), -1);
    }

    private static void priceBelowFloor() {
        PermitBank x = Check.bank("y1,2;m04,1");
        int[] floors = {0, 3, 4, 5, 20};
        int[] taken = {0, 0, 0, 1, 1};
        for (int k = 0; k < floors.length; k++) {
            x.set(0, floors[k]);
            told("12 floor " + floors[k], x, 8, taken[k]);
            told("12 reserve by floor " + floors[k], x, 7, taken[k]);
            row("8 permits by floor " + floors[k], x, 2, 1 - taken[k]);
            row("8 price by floor " + floors[k], x, 4, taken[k] == 0 ? 4 : 20);
        }
        told("12 price 0, floor 0", Check.bank("y9,0;f0"), 8, 0);
        told("12 price 0, floor 1", Check.bank("y3,2;f1"), 8, 2);
        told("12 price 20, floor 20", Check.bank("y1,2;f20"), 8, 0);
        told("12 price 19, floor 20", Check.bank("y1,2;m019,1;f20"), 8, 1);
        told("12 price 20 that will do, floor 20", Check.bank("y1,2;m020,1;f20"), 8, 0);
    }

    private static void takenWithPermits() {
        told("12 no permits", Check.bank("y0,0;f20"), 8, 0);
        told("12 one permit", Check.bank("y1,0;f20"), 8, 1);
        PermitBank all = Check.bank("y20,0;y20,0;y20,0;y20,0;y20,0;f20;s20");
        told("12 all", all, 8, 100);
        told("12 all in the reserve", all, 7, 120);
        told("12 stock as told", all, 4, 20);
        row("8 none left", all, 2, 0, 0, 0, 0, 0);
        row("8 caps as told", all, 0, 20, 20, 20, 20, 20);
        row("8 prices stay below", all, 4, 0, 0, 0, 0, 0);
        Check.due("26 reserve", all.after(2), 120);
        // The first group has none: the second is the first such.
        PermitBank second = Check.bank("y0,0;y2,0;f1");
        told("12 of the second", second, 8, 2);
        row("8 of the second", second, 2, 0, 0);
    }

    private static void takenFromTheLast() {
        // One group at price 0: 3 too many; the last year that has some gives them up first.
        PermitBank x = Check.bank("y9,1;y2,9;f1");
        told("12 too many", x, 8, 2);
        row("8 of the last", x, 2, 9, 0);
        PermitBank z = Check.bank("y9,1;y1,6;y0,1;f1");
        told("12 three too many", z, 8, 3);
        row("8 one of the middle, two of the first", z, 2, 7, 0, 0);
        // The first of two groups first: it stands at 20 before the second is looked at.
        PermitBank w = Check.bank("y2,1;y2,1;f1");
        told("12 of both", w, 8, 4);
        row("8 of both", w, 2, 0, 0);
    }

    private static void priceAboveCeiling() {
        PermitBank x = Check.bank("y0,1;m04,1;s5");
        int[] ceilings = {20, 5, 4, 3, 0};
        int[] given = {0, 0, 0, 1, 1};
        for (int k = 0; k < ceilings.length; k++) {
            x.set(1, ceilings[k]);
            told("12 ceiling " + ceilings[k], x, 9, given[k]);
            told("12 reserve by ceiling " + ceilings[k], x, 7, 5 - given[k]);
            row("8 permits by ceiling " + ceilings[k], x, 2, given[k]);
        }
        told("12 price 20, ceiling 20", Check.bank("y0,5;s9"), 9, 0);
        told("12 price 20, ceiling 19", Check.bank("y0,5;s9;c19"), 9, 5);
        told("12 price 0, ceiling 0", Check.bank("y5,5;s9;c0"), 9, 0);
        told("12 price 1, ceiling 0", Check.bank("y4,5;m01,1;s9;c0"), 9, 1);
    }

    private static void reserveIsZero() {
        int[] stock = {0, 1, 4, 5, 6, 20};
        for (int s : stock) {
            PermitBank x = Check.bank("y0,5;c0;s" + s);
            told("12 given of " + s, x, 9, Math.min(s, 5));
            told("12 left of " + s, x, 7, s - Math.min(s, 5));
            row("8 price by " + s, x, 4, s < 5 ? 20 : 0);
        }
        // What was taken can be given, too.
        PermitBank x = Check.bank("y0,3;y4,0;f1;c0");
        told("12 taken", x, 8, 4);
        told("12 given of it", x, 9, 3);
        told("12 left of it", x, 7, 1);
        row("8 permits", x, 2, 3, 0);
    }

    private static void givenBeyondCaps() {
        PermitBank x = Check.bank("y20,40;c0;s20");
        row("8 twice a cap", x, 2, 40);
        row("8 price", x, 4, 0);
        told("12 all given", x, 7, 0);
        x.set(2, 19);
        row("8 one less", x, 2, 39);
        row("8 price by one less", x, 4, 20);
        // The first year of the first group that is too dear: all go to year 0, and come to year 1 with its group.
        PermitBank z = Check.bank("y0,2;y0,2;c0;s3");
        row("8 the first two first", z, 2, 3, 0);
        told("12 joined by the third", z, 6, 1);
        // The second group is the first such.
        PermitBank w = Check.bank("y2,2;y0,2;c0;s3");
        told("12 one group", w, 6, 1);
        row("8 to its first", w, 2, 4, 0);
        told("12 left", w, 7, 1);
    }

    private static void borrowedUpToLimit() {
        for (int limit = 0; limit <= 5; limit++) {
            PermitBank x = Check.bank("y0,9;y9,0;l" + limit);
            row("8 borrowed, limit " + limit, x, 7, limit, 0);
            row("8 permits, limit " + limit, x, 2, limit, 9 - limit);
            told("12 borrowed, limit " + limit, x, 10, limit);
            told("12 short, limit " + limit, x, 11, 9 - limit);
            told("12 reserve, limit " + limit, x, 7, 0);
        }
    }

    private static void borrowedFromTheFirst() {
        row("8 one is there", Check.bank("y0,5;y1,0;l5"), 7, 1, 0);
        row("8 none is there", Check.bank("y0,5;y0,0;l5"), 7, 0, 0);
        // The second group's first year has none, though its second has.
        PermitBank x = Check.bank("y0,9;y0,0;y3,5;m25,2;l5");
        told("12 two groups", x, 6, 2);
        row("8 prices", x, 4, 20, 5, 5);
        row("8 none borrowed", x, 7, 0, 0, 0);
        // Its first has one: that one is borrowed, and none of the second's.
        x.renew(0, 1, 1);
        row("8 one borrowed", x, 7, 1, 0, 0);
        row("8 permits then", x, 2, 1, 0, 3);
        row("8 alone", Check.bank("y0,5;l5"), 7, 0);
    }

    private static void borrowedWhenAbove() {
        row("8 alike", Check.bank("y1,5;y1,5;l5"), 7, 0, 0);
        row("8 alike at 0", Check.bank("y5,5;y9,5;l5"), 7, 0, 0);
        // 5 above 4: one is borrowed, then both are one group at 5.
        PermitBank x = Check.bank("y0,1;m05,1;y1,2;m14,1;l1");
        row("8 above", x, 7, 1, 0);
        told("12 one group then", x, 6, 1);
        row("8 its price", x, 4, 5, 5);
        PermitBank z = Check.bank("y0,1;m05,1;y1,2;m15,1;l1");
        row("8 5 isn't above 5", z, 7, 0, 0);
        told("12 two groups still", z, 6, 2);
    }

    private static void borrowedByAll() {
        PermitBank x = Check.bank("y0,5;y5,5;y5,5;y5,5;y20,5;l5");
        row("8 each its limit", x, 7, 5, 5, 5, 5, 0);
        row("8 permits moved on", x, 2, 5, 5, 5, 5, 15);
        told("12 twenty in all", x, 10, 20);
        told("12 none short", x, 11, 0);
        // The last year borrows from none.
        row("8 the last", Check.bank("y9,0;y0,5;l5"), 7, 0, 0);
    }

    private static void takenGivenBorrowedInOrder() {
        // Given ahead of borrowed: with what is given there is none to borrow.
        PermitBank x = Check.bank("y0,1;y1,1;c7;s4;l3");
        told("12 given first", x, 9, 1);
        told("12 none to borrow", x, 10, 0);
        row("8 permits", x, 2, 1, 1);
        // Taken ahead of borrowed: what is taken can't be.
        PermitBank z = Check.bank("y0,5;y3,0;f1;l5");
        told("12 taken first", z, 8, 3);
        told("12 none left to borrow", z, 10, 0);
        // Taken ahead of given, and not again: what is given puts the price below the floor.
        PermitBank w = Check.bank("y4,4;f5;c6");
        told("12 taken once", w, 8, 1);
        told("12 given back", w, 9, 1);
        row("8 price below the floor", w, 4, 0);
        row("8 permits again", w, 2, 4);
    }

    private static void sparedByTheFirst() {
        // At 5: HIGH 10 and 6, 10 permits, LOW 6 and 3. 6 must be spared: 4 by the first, 2 by the second.
        PermitBank x = Check.bank("y8,10;m05,4;y2,6;m15,3");
        row("8 price", x, 4, 5, 5);
        row("8 used", x, 5, 6, 4);
        // 4: all by the first. 3, 5: one less, one more.
        x.renew(0, 0, 10);
        row("8 just the first", x, 5, 6, 6);
        x.renew(0, 0, 11);
        row("8 not all of the first", x, 5, 7, 6);
        x.renew(0, 0, 9);
        row("8 one of the second", x, 5, 6, 5);
        x.renew(0, 0, 7);
        row("8 all of both", x, 5, 6, 3);
    }

    private static void lowAtLeast() {
        PermitBank x = Check.bank("y1,10;m05,4;y1,6;m15,3");
        row("8 short", x, 5, 6, 3);
        row("8 short prices", x, 4, 20, 20);
        told("12 short", x, 11, 7);
        row("8 all spared", Check.bank("y0,5;m03,9"), 5, 0);
        told("12 all spared", Check.bank("y0,5;m03,9"), 11, 0);
    }

    private static void nothingToSpare() {
        // HIGH less PERMITS is below 0: all HIGH is used, nothing more.
        PermitBank x = Check.bank("y9,4;y7,5");
        row("8 used", x, 5, 4, 5);
        PermitBank z = Check.bank("y9,4;y1,6");
        row("8 used of one group", z, 5, 4, 6);
        row("8 kept", z, 6, 5, 0);
        PermitBank just = Check.bank("y4,4;y5,5");
        row("8 just as many", just, 5, 4, 5);
        row("8 none kept", just, 6, 0, 0);
    }

    private static void shortAndBank() {
        PermitBank enough = Check.bank("y9,1");
        Check.due("11 short, 0 at least", enough.group(0, 4), 0);
        row("8 bank", enough, 6, 8);
        PermitBank lacking = Check.bank("y1,9");
        Check.due("11 short", lacking.group(0, 4), 8);
        row("8 bank, 0 at least", lacking, 6, 0);
        // All permits, used or not; as worked out, not the caps.
        Check.due("11 more permits than used", enough.group(0, 3), 9);
        Check.due("11 less used than permits", enough.group(0, 5), 1);
        Check.due("11 less permits than used", lacking.group(0, 3), 1);
        Check.due("11 more used than permits", lacking.group(0, 5), 9);
        Check.due("11 permits behind the floor", Check.bank("y9,1;f1").group(0, 3), 0);
        Check.due("11 permits behind the ceiling", Check.bank("y0,9;c0;s4").group(0, 3), 4);
        PermitBank most = Check.bank("y0,40;y0,40;y0,40;y0,40;y0,40");
        told("12 all shorts", most, 11, 200);
        // Each group's bank for itself: year 1 keeps none of year 0's.
        PermitBank apart = Check.bank("y9,1;y9,2");
        row("8 banks apart", apart, 6, 8, 7);
        // Up to it: 8, then 8 less 3, then 5 less 5.
        PermitBank on = Check.bank("y9,1;y2,5;y0,5");
        row("8 banks by years", on, 6, 8, 5, 0);
        PermitBank over = Check.bank("y9,1;y2,5;y0,6");
        row("8 one is short", over, 6, 8, 5, 0);
        told("12 one is short", over, 11, 1);
    }

    private static void doneTillAllOfItIs() {
        int[][] want = {{0, 0, 0}, {1, 0, 0}, {3, 0, 0}, {3, 1, 0}, {3, 4, 0}, {3, 4, 1}, {3, 4, 2}, {3, 4, 2}};
        int[] caps = {20, 19, 17, 16, 13, 12, 11, 10};
        for (int k = 0; k < caps.length; k++) {
            PermitBank x = Check.bank("y" + caps[k] + ",20;m05,3;m05,4;m09,2");
            for (int m = 0; m < 3; m++) {
                Check.due("9 done of " + m + " by cap " + caps[k], x.about(m, 3), want[k][m]);
            }
        }
        // Of one cost the least number, though it came behind a dearer one.
        PermitBank x = Check.bank("y17,20;m09,9;m05,2;m05,2");
        Check.due("9 the dear one", x.about(0, 3), 0);
        Check.due("9 the first of the cheap", x.about(1, 3), 2);
        Check.due("9 the second of the cheap", x.about(2, 3), 1);
        // More than is emitted can't be done.
        PermitBank z = Check.bank("y0,5;m03,4;m03,9");
        Check.due("9 all of the first", z.about(0, 3), 4);
        Check.due("9 the rest", z.about(1, 3), 1);
    }

    private static void totals() {
        Check.due("13 none", new PermitBank().total(), 0);
        Check.due("13 nothing to do", Check.bank("y5,5;m01,9").total(), 0);
        Check.due("13 one at 1", Check.bank("y4,5;m01,9").total(), 1);
        Check.due("13 nine at 20", Check.bank("y0,9;m020,9").total(), 180);
        Check.due("13 one short", Check.bank("y4,5").total(), 20);
        Check.due("13 the most", Check.bank("y0,40;y0,40;y0,40;y0,40;y0,40").total(), 4000);
        Check.due("13 shorts of two groups", Check.bank("y0,2;y0,3").total(), 100);
        Check.due("13 a short and a measure", Check.bank("y0,9;m03,5").total(), 5 * 3 + 4 * 20);
    }

    private static void unlike() {
        told("12 no years", new PermitBank(), 12, 0);
        told("12 one price", Check.bank("y1,1;y1,1;y1,1;y1,1;y1,1"), 12, 1);
        told("12 one group", Check.bank("y9,1;y0,3"), 12, 1);
        told("12 five prices", Check.bank("y0,1;m05,1;y0,1;m14,1;y0,1;m23,1;y0,1;m32,1;y0,1;m41,1"), 12, 5);
        told("12 two of three alike", Check.bank("y0,1;y0,1;y1,1"), 12, 2);
    }

    private static void byCapsAlone() {
        PermitBank taken = Check.bank("y10,5;f8");
        row("8 with what is taken", taken, 4, 20);
        Check.due("14 without", taken.alone(0), 0);
        PermitBank given = Check.bank("y0,5;c0;s5");
        row("8 with what is given", given, 4, 0);
        Check.due("14 without", given.alone(0), 20);
        PermitBank borrowed = Check.bank("y0,5;y9,0;l5");
        row("8 with what is borrowed", borrowed, 4, 0, 0);
        Check.due("14 without", borrowed.alone(0), 20);
        PermitBank joined = Check.bank("y9,1;y0,3");
        row("8 with its group", joined, 4, 0, 0);
        Check.due("14 without the first", joined.alone(1), 20);
        Check.due("14 without the second", joined.alone(0), 0);
        Check.due("14 just enough", Check.bank("y5,8;m04,3").alone(0), 4);
        Check.due("14 one less", Check.bank("y4,8;m04,3").alone(0), 20);
        Check.due("14 nothing", Check.bank("y0,0").alone(0), 0);
    }
}

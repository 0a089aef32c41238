/** New banks for the tests, each made by less than 200 calls. */
final class Banks {
    private Banks() { }

    static PermitBank empty() {
        return new PermitBank();
    }

    /** Two years, three measures, a text that is a set-up, no image, some rows, one tape. */
    static PermitBank middle() {
        PermitBank x = Check.bank("y6,4;y5,15;m14,5;m19,9;m03,2;f2;c8;s3;l1");
        x.see(0, x.of(0, 4));
        x.event(1, 0);
        x.event(2, 3);
        x.book(1, x.of(1, 4));
        x.tape(2, 3, 4);
        for (int i = 0; i < 4; i++) {
            x.item(2, i, i < 2 ? x.of(i, 4) : -i);
        }
        Check.feed(x, "f5;l2");
        return x;
    }

    /** All that has an end is full; something is taken, given, borrowed and short; an image of otherwise. */
    static PermitBank full() {
        PermitBank x = new PermitBank();
        x.year(2, 9);
        x.measure(0, 7, 3);
        x.set(0, 2);
        x.see(0, 4);
        x.event(3, 9);
        x.book(0, 4);
        x.image();
        x.renew(1, 0, 30);
        x.year(12, 15);
        x.year(19, 4);
        x.year(0, 14);
        x.year(8, 6);
        int[] costs = {5, 12, 3, 18, 9, 9, 2, 20, 6};
        for (int m = 0; m < 9; m++) {
            x.measure(m % 5, costs[m], 1 + m * 5 % 9);
        }
        x.set(0, 4);
        x.set(1, 9);
        x.set(2, 5);
        x.set(3, 2);
        rows(x);
        Check.feed(x, "f1;c2;s3;l4;m012,3;m112,3;m212,3;m312,3;m412,3;m012,4;m112,4;m212,4;m312,4;m012,5;x");
        Check.feed(x, "y".repeat(100 - x.count(3)));
        tapes(x);
        return x;
    }

    private static void rows(PermitBank x) {
        x.see(-1, 0);
        x.event(-1, 0);
        x.book(-1, 0);
        for (int k = 0; k < 8; k++) {
            x.see(k % 5, x.of(k % 5, 4));
            x.event(k % 4, k % 5);
            x.book(k % 5, x.of(k % 5, 4));
        }
    }

    /** Tapes 0 to 4 of their sorts, 5 of longs: the prices and, at its end, another number. */
    private static void tapes(PermitBank x) {
        for (int t = 0; t < 6; t++) {
            x.tape(t, Math.min(t, 4), t == 1 ? 0 : t == 2 ? 7 : 60);
            x.item(t, 5, 1);
        }
        x.tape(5, 3, 60);
        for (int y = 0; y < 5; y++) {
            x.item(5, y, x.of(y, 4));
        }
        x.item(5, 59, Long.MAX_VALUE);
    }
}

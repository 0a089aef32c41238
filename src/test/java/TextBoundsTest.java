/** Promises 6 and 7: THE TEXT's signs, clauses and faults. */
public final class TextBoundsTest {
    private static final String DIGITS = "0123456789";

    public static void main(String[] args) {
        everySign();
        hundredSigns();
        everyPlace();
        fourteenClauses();
        behindTheFourteenth();
        endTooEarly();
        nothingDoneByAFault();
        longestText();
        numbersOfTwoDigits();
        refusedClauses();
        fullClauses();
        oneBehindTheOther();
        emptyBehindReading();
        Check.end();
    }

    private static void everySign() {
        for (int sign = -3; sign <= 130; sign++) {
            PermitBank x = new PermitBank();
            boolean taken = sign >= 0 && sign <= 127;
            Check.due("6 sign " + sign, x.feed(sign), taken ? 1 : -2);
            Check.due("6 bytes behind " + sign, x.count(3), taken ? 1 : 0);
        }
        PermitBank x = new PermitBank();
        // 'f', '1' with a bit more, which no byte's 7 bits hold.
        Check.due("6 f and 128", x.feed('f' + 128), -2);
        Check.due("6 f and 256", x.feed('f' + 256), -2);
        Check.due("6 f less 256", x.feed('f' - 256), -2);
        Check.due("6 f", x.feed('f'), 1);
        Check.due("6 1 and 65536", x.feed('1' + 65536), -2);
        Check.due("6 1", x.feed('1'), 2);
        Check.due("7 f1", x.read(), 1);
    }

    private static void hundredSigns() {
        PermitBank x = new PermitBank();
        for (int n = 1; n <= 100; n++) {
            Check.due("6 sign number " + n, x.feed('0' + n % 10), n);
            Check.due("6 how many " + n, x.count(3), n);
        }
        Check.due("6 the 101st", x.feed('0'), -4);
        Check.due("6 BAD ahead of FULL", x.feed(-1), -2);
        Check.due("6 still 100", x.count(3), 100);
        Check.due("7 fault at 0", x.read(), -10);
        Check.due("6 the first again", x.feed('0'), 1);
    }

    /** Behind each beginning every sign there is: only those that go on so are no fault. */
    private static void everyPlace() {
        place("", "ymfcsl");
        place("y", DIGITS);
        place("y0", DIGITS + ",");
        place("y20", ",");
        place("y20,", DIGITS);
        place("y2,", DIGITS);
        place("y2,4", DIGITS + ";");
        place("y2,40", ";");
        place("m", DIGITS);
        place("m0", DIGITS);
        place("m01", DIGITS + ",");
        place("m012", ",");
        place("m012,", DIGITS);
        place("m012,9", ";");
        for (String kind : new String[] {"f", "c", "s"}) {
            place(kind, DIGITS);
            place(kind + "1", DIGITS + ";");
            place(kind + "12", ";");
        }
        place("l", DIGITS);
        place("l1", ";");
        place("l1;", "ymfcsl");
        place("y1,1;m01,1;f1;", "ymfcsl");
        place("l1;y", DIGITS);
        place("l1;m01,", DIGITS);
        place("f1;l1", ";");
    }

    private static void place(String ahead, String fitting) {
        for (int sign = 0; sign < 128; sign++) {
            PermitBank x = new PermitBank();
            Check.feed(x, ahead);
            x.feed(sign);
            boolean fault = x.read() == -10 - ahead.length();
            Check.holds("7 sign " + sign + " behind '" + ahead + "'", fault == (fitting.indexOf(sign) < 0));
        }
    }

    private static void fourteenClauses() {
        String text = "";
        for (int n = 1; n <= 14; n++) {
            text = text + (n == 1 ? "" : ";") + "f" + n;
            PermitBank x = new PermitBank();
            Check.due("7 clauses " + n, Check.read(x, text), n);
            Check.due("7 the last of " + n, x.told(2), n);
        }
        PermitBank x = new PermitBank();
        Check.due("7 fifteen", Check.read(x, text + ";f15"), -10 - text.length());
        Check.due("7 none of fifteen", x.told(2), 0);
    }

    private static void behindTheFourteenth() {
        String thirteen = "l1;l1;l1;l1;l1;l1;l1;l1;l1;l1;l1;l1;l1;";
        String[] last = {"l1", "f1", "f12", "y1,1", "y1,11", "m01,1"};
        for (String clause : last) {
            String text = thirteen + clause;
            for (int sign = 0; sign < 128; sign++) {
                PermitBank x = new PermitBank();
                x.year(0, 0);
                Check.feed(x, text);
                x.feed(sign);
                boolean digit = DIGITS.indexOf(sign) >= 0 && (clause.equals("f1") || clause.equals("y1,1"));
                Check.due("7 sign " + sign + " behind the fourteenth, " + clause, x.read(), digit ? 14 : -10 - text.length());
            }
        }
        PermitBank x = new PermitBank();
        Check.due("7 a ; behind the thirteenth", Check.read(x, thirteen), -10 - 39);
        Check.due("7 and the fourteenth", Check.read(x, thirteen + "l3"), 14);
        Check.due("7 done", x.told(5), 3);
    }

    private static void endTooEarly() {
        String whole = "y20,40;m012,9;f20;c20;s20;l5";
        // Where a set-up may end: behind a number's first or second digit, as its kind has it.
        String ends = " 4 5 12 15 16 19 20 23 24 27 ";
        for (int n = 0; n < whole.length(); n++) {
            PermitBank x = new PermitBank();
            int answer = Check.read(x, whole.substring(0, n));
            boolean end = ends.contains(" " + (n - 1) + " ");
            Check.holds("7 ended behind " + n + ": " + answer, end ? answer > 0 : answer == -10 - n);
        }
        Check.due("7 all of it", Check.read(new PermitBank(), whole), 6);
        Check.due("7 nothing", new PermitBank().read(), -10);
    }

    private static void nothingDoneByAFault() {
        PermitBank x = Check.bank("y3,4;m05,6;f1;c2;s3;l4");
        Check.due("7 fault at the end", Check.read(x, "y1,1;m01,1;f9;c9;s9;l5;"), -10 - 23);
        Check.due("7 fault at the last sign", Check.read(x, "y1,1;m01,1;f9;c9;s9;l5x"), -10 - 22);
        int[] told = {1, 1, 1, 2, 3, 4};
        for (int what = 0; what < 6; what++) {
            Check.due("7 told " + what + " as before", x.told(what), told[what]);
        }
        Check.due("7 emptied by a fault", x.count(3), 0);
    }

    /** 14 clauses of 6 signs, and 13 between, are 97: all beyond is at fault. */
    private static void longestText() {
        String text = "y10,10;".repeat(13) + "y10,10";
        Check.due("7 97 signs", text.length(), 97);
        Check.due("7 97, five done", Check.read(new PermitBank(), text), 5);
        for (int more = 1; more <= 3; more++) {
            PermitBank x = new PermitBank();
            Check.due("7 fed", Check.feed(x, text + "000".substring(0, more)), 97 + more);
            Check.due("7 fault of " + (97 + more), x.read(), -10 - 97);
            Check.due("7 none done", x.told(0), 0);
        }
        // 13 clauses of less, and a fourteenth that the hundredth sign cuts off.
        PermitBank x = new PermitBank();
        Check.feed(x, "f1" + "0".repeat(98));
        Check.due("7 number too long", x.read(), -10 - 3);
        Check.feed(x, ";".repeat(100));
        Check.due("7 hundred ;", x.read(), -10);
        Check.feed(x, "y".repeat(100));
        Check.due("7 hundred y", x.read(), -10 - 1);
    }

    private static void numbersOfTwoDigits() {
        String[] written = {"0", "00", "1", "01", "9", "09", "10", "19", "20"};
        int[] numbers = {0, 0, 1, 1, 9, 9, 10, 19, 20};
        for (int k = 0; k < written.length; k++) {
            PermitBank x = new PermitBank();
            Check.due("7 y " + written[k], Check.read(x, "y" + written[k] + "," + written[k]), 1);
            Check.due("7 cap " + written[k], x.of(0, 0), numbers[k]);
            Check.due("7 emission " + written[k], x.of(0, 1), numbers[k]);
            String[] kinds = {"f", "c", "s"};
            for (int what = 0; what < 3; what++) {
                Check.due("7 " + kinds[what] + " " + written[k], Check.read(x, kinds[what] + written[k]), 1);
                Check.due("7 it is " + numbers[k], x.told(2 + what), numbers[k]);
            }
            Check.due("7 m " + written[k], Check.read(x, "m0" + written[k] + ",9"), numbers[k] == 0 ? 0 : 1);
            Check.due("7 its cost " + written[k], x.about(0, 1), numbers[k] == 0 ? -1 : numbers[k]);
        }
        PermitBank x = new PermitBank();
        for (int limit = 0; limit <= 5; limit++) {
            Check.due("7 l" + limit, Check.read(x, "l" + limit), 1);
            Check.due("7 limit " + limit, x.told(5), limit);
        }
        x.year(0, 0);
        for (int much = 1; much <= 9; much++) {
            Check.due("7 much " + much, Check.read(x, "m01," + much), 1);
            Check.due("7 it is " + much, x.about(much - 1, 2), much);
        }
    }

    private static void refusedClauses() {
        String[] taken = {"y20,40", "y0,0", "f20", "f0", "c20", "c0", "s20", "s0", "l5", "l0", "m11,1", "m120,9"};
        String[] refused = {"y21,40", "y20,41", "y99,0", "y0,99", "f21", "f99", "c21", "c99", "s21", "s99", "l6", "l9",
            "m10,1", "m100,1", "m121,1", "m199,1", "m11,0", "m21,1", "m91,1"};
        for (String clause : taken) {
            PermitBank x = Check.bank("y1,1;y1,1");
            Check.due("7 done: " + clause, Check.read(x, clause), 1);
        }
        for (String clause : refused) {
            PermitBank x = Check.bank("y1,1;y1,1");
            Check.due("7 refused: " + clause, Check.read(x, clause), 0);
            Check.due("7 years behind " + clause, x.told(0), 2);
            Check.due("7 measures behind " + clause, x.told(1), 0);
            Check.due("7 settings behind " + clause, x.told(2) + x.told(4) + x.told(5) + x.told(3), 20);
            Check.due("7 between others: " + clause, Check.read(x, "l1;" + clause + ";f3"), 2);
            Check.due("7 ahead of it", x.told(5), 1);
            Check.due("7 behind it", x.told(2), 3);
        }
        Check.due("7 all fourteen refused", Check.read(new PermitBank(),
            "m01,1;m01,1;m01,1;m01,1;m01,1;m01,1;m01,1;m01,1;m01,1;m01,1;m01,1;m01,1;m01,1;m01,1"), 0);
    }

    private static void fullClauses() {
        PermitBank x = new PermitBank();
        Check.due("7 five of six years", Check.read(x, "y1,1;y2,2;y3,3;y4,4;y5,5;y6,6"), 5);
        Check.due("7 the fifth", x.of(4, 0), 5);
        Check.due("7 a year more", Check.read(x, "y1,1"), 0);
        Check.due("7 ten of eleven measures", Check.read(x,
            "m01,1;m12,2;m23,3;m34,4;m45,5;m06,6;m17,7;m28,8;m39,9;m410,1;m011,2"), 10);
        Check.due("7 the tenth", x.about(9, 1), 10);
        Check.due("7 a measure more", Check.read(x, "m01,1;l1"), 1);
    }

    private static void oneBehindTheOther() {
        PermitBank x = new PermitBank();
        Check.due("7 a measure ahead of its year", Check.read(x, "m01,1;y1,1"), 1);
        Check.due("7 none came", x.told(1), 0);
        Check.due("7 behind it", Check.read(x, "y2,2;m11,1"), 2);
        Check.due("7 its year", x.about(0, 0), 1);
        Check.due("7 the last holds", Check.read(x, "f3;f21;f4;c7;c6;s1;s2;l4;l3"), 8);
        int[] told = {4, 6, 2, 3};
        for (int what = 0; what < 4; what++) {
            Check.due("7 the last of " + what, x.told(2 + what), told[what]);
        }
    }

    private static void emptyBehindReading() {
        PermitBank x = new PermitBank();
        Check.due("7 done", Check.read(x, "f12"), 1);
        Check.due("7 empty", x.count(3), 0);
        Check.due("7 nothing is left", x.read(), -10);
        Check.due("7 shorter", Check.read(x, "f"), -11);
        Check.due("7 empty by a fault", x.count(3), 0);
        Check.due("7 the next from its beginning", Check.read(x, "f1"), 1);
        Check.due("7 it holds", x.told(2), 1);
        Check.due("7 all signs again", Check.feed(x, "z".repeat(100)), 100);
    }
}

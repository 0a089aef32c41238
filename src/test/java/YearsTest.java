/** Promises 1 to 7: a new object, years, measures, settings, THE TEXT. */
public final class YearsTest {
    private static final long NO = PermitBank.NO;

    public static void main(String[] args) {
        newObject();
        years();
        measures();
        renewing();
        settings();
        feeding();
        reading();
        faults();
        longTexts();
        Check.end();
    }

    private static void newObject() {
        PermitBank x = new PermitBank();
        for (int what = 0; what <= 12; what++) {
            Check.due("1 told " + what, x.told(what), what == 3 ? 20 : 0);
        }
        Check.due("1 of", x.of(0, 0), -1);
        Check.due("1 total", x.total(), 0);
        Check.due("1 mean", x.mean(0), NO);
        for (int what = 0; what <= 3; what++) {
            Check.due("1 count " + what, x.count(what), 0);
        }
        for (int t = 0; t < 6; t++) {
            Check.due("1 tape " + t, x.item(t, 0, 1), -11);
        }
        Check.due("1 undo", x.undo(), -3);
        Check.due("1 NO", PermitBank.NO, Long.MIN_VALUE);
        Check.due("1 NONE", PermitBank.NONE, -1);
        Check.due("1 BAD", PermitBank.BAD, -2);
        Check.due("1 STATE", PermitBank.STATE, -3);
        Check.due("1 FULL", PermitBank.FULL, -4);
    }

    private static void years() {
        PermitBank x = new PermitBank();
        Check.due("2 cap -1", x.year(-1, 0), -2);
        Check.due("2 cap 21", x.year(21, 0), -2);
        Check.due("2 emission -1", x.year(0, -1), -2);
        Check.due("2 emission 41", x.year(0, 41), -2);
        Check.due("2 greatest", x.year(Integer.MAX_VALUE, Integer.MIN_VALUE), -2);
        Check.due("2 none came", x.told(0), 0);
        for (int k = 0; k < 5; k++) {
            Check.due("2 year " + k, x.year(k * 5, k * 10), k);
        }
        Check.due("2 full", x.year(0, 0), -4);
        Check.due("2 bad ahead of full", x.year(21, 0), -2);
        Check.due("2 years", x.told(0), 5);
        Check.due("2 cap", x.of(4, 0), 20);
        Check.due("2 emission", x.of(4, 1), 40);
        Check.due("2 first cap", x.of(0, 0), 0);
        Check.due("2 first emission", x.of(0, 1), 0);
        PermitBank z = Check.bank("y0,5");
        Check.due("2 total ahead", z.total(), 100);
        z.year(0, 1);
        Check.due("2 total behind", z.total(), 120);
    }

    private static void measures() {
        PermitBank x = new PermitBank();
        Check.due("3 no year", x.measure(0, 0, 0), -1);
        x.year(3, 4);
        x.year(3, 4);
        Check.due("3 year -1", x.measure(-1, 1, 1), -1);
        Check.due("3 year 2", x.measure(2, 1, 1), -1);
        Check.due("3 cost 0", x.measure(1, 0, 1), -2);
        Check.due("3 cost 21", x.measure(1, 21, 1), -2);
        Check.due("3 much 0", x.measure(1, 1, 0), -2);
        Check.due("3 much 10", x.measure(1, 1, 10), -2);
        for (int k = 0; k < 10; k++) {
            Check.due("3 measure " + k, x.measure(k % 2, 20 - k, k == 0 ? 9 : k), k);
        }
        Check.due("3 full", x.measure(0, 1, 1), -4);
        Check.due("3 bad ahead of full", x.measure(0, 21, 1), -2);
        Check.due("3 none ahead of full", x.measure(5, 1, 1), -1);
        Check.due("3 measures", x.told(1), 10);
        Check.due("3 year of 7", x.about(7, 0), 1);
        Check.due("3 cost of 7", x.about(7, 1), 13);
        Check.due("3 much of 7", x.about(7, 2), 7);
        PermitBank z = Check.bank("y0,5");
        Check.due("3 total ahead", z.total(), 100);
        z.measure(0, 3, 4);
        Check.due("3 total behind", z.total(), 32);
    }

    private static void renewing() {
        PermitBank x = Check.bank("y10,20;y20,40;m05,4;m11,9");
        Check.due("4 what -1", x.renew(-1, 0, 0), -1);
        Check.due("4 what 4", x.renew(4, 0, 0), -1);
        Check.due("4 year 2", x.renew(0, 2, 0), -1);
        Check.due("4 year -1", x.renew(1, -1, 99), -1);
        Check.due("4 measure 2", x.renew(2, 2, 1), -1);
        Check.due("4 measure -1", x.renew(3, -1, 1), -1);
        int[] least = {0, 0, 1, 1};
        int[] most = {20, 40, 20, 9};
        int[] was = {20, 40, 1, 9};
        for (int what = 0; what < 4; what++) {
            Check.due("4 too little " + what, x.renew(what, 1, least[what] - 1), -2);
            Check.due("4 too much " + what, x.renew(what, 1, most[what] + 1), -2);
            Check.due("4 least " + what, x.renew(what, 1, least[what]), was[what]);
            Check.due("4 most " + what, x.renew(what, 1, most[what]), least[what]);
            Check.due("4 again " + what, x.renew(what, 1, least[what] + 1), most[what]);
        }
        Check.due("4 cap", x.of(1, 0), 1);
        Check.due("4 emission", x.of(1, 1), 1);
        Check.due("4 cost", x.about(1, 1), 2);
        Check.due("4 much", x.about(1, 2), 2);
        Check.due("4 other cap", x.of(0, 0), 10);
        Check.due("4 other cost", x.about(0, 1), 5);
        Check.due("4 price ahead", x.of(0, 4), 20);
        x.renew(0, 0, 16);
        Check.due("4 price behind", x.of(0, 4), 5);
    }

    private static void settings() {
        PermitBank x = new PermitBank();
        int[] first = {0, 20, 0, 0};
        int[] most = {20, 20, 20, 5};
        for (int what = 0; what < 4; what++) {
            Check.due("5 too little " + what, x.set(what, -1), -2);
            Check.due("5 too much " + what, x.set(what, most[what] + 1), -2);
            Check.due("5 most " + what, x.set(what, most[what]), first[what]);
            Check.due("5 told " + what, x.told(2 + what), most[what]);
            Check.due("5 least " + what, x.set(what, 0), most[what]);
            Check.due("5 mid " + what, x.set(what, 4), 0);
        }
        Check.due("5 what -1", x.set(-1, 0), -1);
        Check.due("5 what 4", x.set(4, 99), -1);
        Check.due("5 stock is the reserve", x.told(7), 4);
    }

    private static void feeding() {
        PermitBank x = new PermitBank();
        Check.due("6 sign -1", x.feed(-1), -2);
        Check.due("6 sign 128", x.feed(128), -2);
        for (int k = 1; k <= 100; k++) {
            Check.due("6 sign " + k, x.feed(k == 1 ? 0 : 127), k);
        }
        Check.due("6 full", x.feed(65), -4);
        Check.due("6 bad ahead of full", x.feed(128), -2);
        Check.due("6 bytes", x.count(3), 100);
        Check.due("6 read", x.read(), -10);
        Check.due("6 empty", x.count(3), 0);
        Check.due("6 first again", x.feed(121), 1);
    }

    private static void reading() {
        PermitBank x = new PermitBank();
        Check.due("7 one year", Check.read(x, "y20,10"), 1);
        Check.due("7 emptied", x.count(3), 0);
        Check.due("7 nothing is left of it", x.read(), -10);
        Check.due("7 nor behind a shorter one", Check.read(x, "y20"), -13);
        Check.due("7 zeros ahead", Check.read(x, "y05,00;f04;c00;s09;l3"), 5);
        Check.due("7 cap", x.of(1, 0), 5);
        Check.due("7 floor", x.told(2), 4);
        Check.due("7 ceiling", x.told(3), 0);
        Check.due("7 stock", x.told(4), 9);
        Check.due("7 limit", x.told(5), 3);
        Check.due("7 refused ones", Check.read(x, "y21,0;y0,41;m91,1;m00,1;m021,1;m01,0;f21;c21;s21;l6;f20"), 1);
        Check.due("7 years", x.told(0), 2);
        Check.due("7 measures", x.told(1), 0);
        Check.due("7 floor 20", x.told(2), 20);
        Check.due("7 a year ahead of its measure", Check.read(x, "m25,4;y1,2;m25,4"), 2);
        Check.due("7 measure's year", x.about(0, 0), 2);
        Check.due("7 measure's cost", x.about(0, 1), 5);
        Check.due("7 measure's much", x.about(0, 2), 4);
        Check.due("7 full", Check.read(x, "y1,1;y2,2;y3,3"), 2);
        Check.due("7 cost of two digits", Check.read(x, "m412,9"), 1);
        Check.due("7 it", x.about(1, 1), 12);
        Check.due("7 fourteen", Check.read(x, "f0;f1;f2;f3;f4;f5;f6;f7;f8;f9;f10;f11;f12;f13"), 14);
        Check.due("7 the last stays", x.told(2), 13);
    }

    private static void fault(String text, int place) {
        PermitBank x = new PermitBank();
        Check.due("7 fault of '" + text + "'", Check.read(x, text), -10 - place);
        Check.due("7 nothing done of '" + text + "'", x.told(0) + x.told(1) + x.told(2) + x.told(4) + x.told(5), 0);
        Check.due("7 emptied of '" + text + "'", x.count(3), 0);
    }

    private static void faults() {
        String[] early = {"", "y", "y2", "y20", "y20,", "m", "m0", "m01", "m012", "m012,", "f", "c", "s", "l", "y1,1;"};
        for (String text : early) {
            fault(text, text.length());
        }
        fault("Y1,1", 0);
        fault(" y1,1", 0);
        fault("y 1,1", 1);
        fault("y1 ,1", 2);
        fault("y123,1", 3);
        fault("y1,123", 5);
        fault("y1,1 ", 4);
        fault("y1;", 2);
        fault("y,1", 1);
        fault("y1,,", 3);
        fault("m,1,1", 1);
        fault("m0,1", 2);
        fault("m0123,1", 4);
        fault("m01,12", 5);
        fault("f123", 3);
        fault("f-1", 1);
        fault("l12", 2);
        fault("l1;;", 3);
        fault("y1,1;x", 5);
        fault("y1,1;f1;c", 9);
        fault("f1:", 2);
        fault("f1/", 2);
        String thirteen = "f1;f1;f1;f1;f1;f1;f1;f1;f1;f1;f1;f1;f1;";
        fault(thirteen, 39);
        fault(thirteen + "f1;", 41);
        fault(thirteen + "f1;f1", 41);
        fault(thirteen + "f123", 42);
        fault(thirteen + "y1", 41);
    }

    private static void longTexts() {
        String seven = "m010,1;";
        StringBuilder text = new StringBuilder();
        for (int k = 0; k < 14; k++) {
            text.append(seven);
        }
        PermitBank x = new PermitBank();
        Check.due("7 ends behind the fourteenth", Check.read(x, text.toString()), -10 - 97);
        text.setLength(97);
        x.year(20, 40);
        Check.due("7 97 bytes", Check.read(x, text.toString()), 10);
        PermitBank z = new PermitBank();
        Check.due("7 100 bytes", Check.feed(z, "y10,10;".repeat(13) + "y10,123456"), -4);
        Check.due("7 100 bytes' fault", z.read(), -10 - 97);
        PermitBank w = new PermitBank();
        Check.due("7 100 bytes, too early", Check.read(w, "m010,1;m010,1;m010,1;m010,1;m010,1;"
            + "m010,1;m010,1;m010,1;m010,1;m010,1;m010,1;m010,1;y10,10;y2,"), -10 - 94);
        PermitBank v = new PermitBank();
        Check.due("7 just 100", Check.feed(v, "f1;y10,10;".repeat(7) + "f1;y10,10;".repeat(3)), 100);
        Check.due("7 just 100's fault", v.read(), -10 - 69);
    }
}

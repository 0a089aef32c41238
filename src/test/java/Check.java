/** Counts answers that are not as due; a test ends with end(). */
public final class Check {
    private static int right = 0;
    private static int wrong = 0;

    private Check() { }

    public static void due(String call, long got, long want) {
        if (got == want) {
            right++;
            return;
        }
        wrong++;
        System.out.println(call + " answered " + got + ", due is " + want);
    }

    static void holds(String what, boolean so) {
        due(what, so ? 1 : 0, 1);
    }

    /** Feeds a text; answers how many signs it has then. */
    static int feed(PermitBank x, String text) {
        int n = x.count(3);
        for (int i = 0; i < text.length(); i++) {
            n = x.feed(text.charAt(i));
        }
        return n;
    }

    static int read(PermitBank x, String text) {
        feed(x, text);
        return x.read();
    }

    /** A bank set up by clauses, all of which must be done. */
    static PermitBank bank(String text) {
        PermitBank x = new PermitBank();
        int clauses = text.split(";").length;
        due("read " + text, read(x, text), clauses);
        return x;
    }

    static void end() {
        System.out.println(right + " as due, " + wrong + " not");
        if (wrong != 0) {
            System.exit(1);
        }
    }
}

import java.util.ArrayList;
import java.util.Arrays;
import java.util.List;
import java.util.regex.Matcher;
import java.util.regex.Pattern;

/** The document written once more, as plainly as can be: everything is worked out anew for each question. */
final class Model {
    static final long NO = Long.MIN_VALUE;
    private static final Pattern SET_UP;

    static {
        String clause = "(y\\d\\d?,\\d\\d?|m\\d\\d\\d?,\\d|[fcs]\\d\\d?|l\\d)";
        SET_UP = Pattern.compile(clause + "(;" + clause + "){0,13}");
    }

    /** What was told; rows are {cap, emission}, {year, cost, much}, {year, price}, {what, n}. */
    private static final class Told {
        List<int[]> years = new ArrayList<>();
        List<int[]> measures = new ArrayList<>();
        int[] settings = {0, 20, 0, 0};
        List<int[]> seen = new ArrayList<>();
        List<int[]> events = new ArrayList<>();
        List<int[]> book = new ArrayList<>();

        Told copy() {
            Told t = new Told();
            t.years = copy(years);
            t.measures = copy(measures);
            t.settings = settings.clone();
            t.seen = copy(seen);
            t.events = copy(events);
            t.book = copy(book);
            return t;
        }

        private static List<int[]> copy(List<int[]> rows) {
            List<int[]> all = new ArrayList<>();
            for (int[] row : rows) {
                all.add(row.clone());
            }
            return all;
        }
    }

    /** What is worked out. */
    private static final class Out {
        final Told t;
        final int[] permits;
        final int[] borrowed;
        int reserve;
        int taken;
        int given;
        List<List<Integer>> groups;

        Out(Told t) {
            this.t = t;
            permits = new int[t.years.size()];
            borrowed = new int[t.years.size()];
            for (int y = 0; y < permits.length; y++) {
                permits[y] = t.years.get(y)[0];
            }
            reserve = t.settings[2];
            while (take()) {
                taken++;
            }
            while (give()) {
                given++;
            }
            while (borrow()) {
                continue;
            }
            groups = groups();
        }

        int high(int y, int p) {
            int n = t.years.get(y)[1];
            for (int[] m : t.measures) {
                n -= m[0] == y && m[1] < p ? m[2] : 0;
            }
            return Math.max(n, 0);
        }

        int low(int y, int p) {
            int n = t.years.get(y)[1];
            for (int[] m : t.measures) {
                n -= m[0] == y && m[1] <= p ? m[2] : 0;
            }
            return Math.max(n, 0);
        }

        int price(List<Integer> group) {
            for (int p = 0; p <= 20; p++) {
                int lows = 0;
                for (int y : group) {
                    lows += low(y, p);
                }
                if (lows <= permitsOf(group)) {
                    return p;
                }
            }
            return 20;
        }

        int permitsOf(List<Integer> group) {
            int n = 0;
            for (int y : group) {
                n += permits[y];
            }
            return n;
        }

        List<List<Integer>> groups() {
            List<List<Integer>> all = new ArrayList<>();
            for (int y = 0; y < permits.length; y++) {
                all.add(new ArrayList<>(List.of(y)));
            }
            boolean joined = true;
            while (joined) {
                joined = false;
                for (int g = 0; g + 1 < all.size() && !joined; g++) {
                    if (price(all.get(g)) < price(all.get(g + 1))) {
                        all.get(g).addAll(all.remove(g + 1));
                        joined = true;
                    }
                }
            }
            return all;
        }

        private boolean take() {
            for (List<Integer> group : groups()) {
                if (price(group) < t.settings[0] && permitsOf(group) > 0) {
                    int y = group.get(group.size() - 1);
                    while (permits[y] == 0) {
                        y--;
                    }
                    permits[y]--;
                    reserve++;
                    return true;
                }
            }
            return false;
        }

        private boolean give() {
            for (List<Integer> group : groups()) {
                if (price(group) > t.settings[1] && reserve != 0) {
                    permits[group.get(0)]++;
                    reserve--;
                    return true;
                }
            }
            return false;
        }

        private boolean borrow() {
            List<List<Integer>> all = groups();
            for (int g = 0; g + 1 < all.size(); g++) {
                List<Integer> one = all.get(g);
                int last = one.get(one.size() - 1);
                int next = all.get(g + 1).get(0);
                if (price(one) > price(all.get(g + 1)) && borrowed[last] < t.settings[3] && permits[next] > 0) {
                    permits[next]--;
                    permits[last]++;
                    borrowed[last]++;
                    return true;
                }
            }
            return false;
        }

        int groupOf(int y) {
            for (int g = 0; g < groups.size(); g++) {
                if (groups.get(g).contains(y)) {
                    return g;
                }
            }
            throw new IllegalStateException();
        }

        int priceOf(int y) {
            return price(groups.get(groupOf(y)));
        }

        int used(int y) {
            List<Integer> group = groups.get(groupOf(y));
            int p = price(group);
            int spare = -permitsOf(group);
            for (int k : group) {
                spare += high(k, p);
            }
            spare = Math.max(spare, 0);
            for (int k : group) {
                int used = Math.max(high(k, p) - spare, low(k, p));
                spare -= high(k, p) - used;
                if (k == y) {
                    return used;
                }
            }
            throw new IllegalStateException();
        }

        int bank(int y) {
            int n = 0;
            for (int k : groups.get(groupOf(y))) {
                n += k <= y ? permits[k] - used(k) : 0;
            }
            return Math.max(n, 0);
        }

        int usedOf(List<Integer> group) {
            int n = 0;
            for (int y : group) {
                n += used(y);
            }
            return n;
        }

        int shortOf(List<Integer> group) {
            return Math.max(0, usedOf(group) - permitsOf(group));
        }

        int shorts() {
            int n = 0;
            for (List<Integer> group : groups) {
                n += shortOf(group);
            }
            return n;
        }

        List<Integer> merit(int y) {
            List<Integer> all = new ArrayList<>();
            for (int m = 0; m < t.measures.size(); m++) {
                if (t.measures.get(m)[0] == y) {
                    all.add(m);
                }
            }
            all.sort((a, b) -> {
                int byCost = t.measures.get(a)[1] - t.measures.get(b)[1];
                return byCost != 0 ? byCost : a - b;
            });
            return all;
        }

        int done(int measure) {
            int y = t.measures.get(measure)[0];
            int rest = t.years.get(y)[1] - used(y);
            for (int m : merit(y)) {
                int n = Math.min(rest, t.measures.get(m)[2]);
                rest -= n;
                if (m == measure) {
                    return n;
                }
            }
            throw new IllegalStateException();
        }

        List<Integer> ranks() {
            List<Integer> all = new ArrayList<>();
            for (int m = 0; m < t.measures.size(); m++) {
                all.add(m);
            }
            all.sort((a, b) -> {
                int byLeft = t.measures.get(b)[2] - done(b) - (t.measures.get(a)[2] - done(a));
                int byCost = t.measures.get(a)[1] - t.measures.get(b)[1];
                return byLeft != 0 ? byLeft : byCost != 0 ? byCost : b - a;
            });
            return all;
        }

        long total() {
            long n = 20L * shorts();
            for (int m = 0; m < t.measures.size(); m++) {
                n += (long) done(m) * t.measures.get(m)[1];
            }
            return n;
        }

        /** Rows {from, to, how many}. */
        List<int[]> ways() {
            List<int[]> all = new ArrayList<>();
            for (List<Integer> group : groups) {
                int[] left = permits.clone();
                for (int y : group) {
                    int wanted = used(y);
                    for (int from : group) {
                        int n = from > y ? 0 : Math.min(wanted, left[from]);
                        if (n > 0) {
                            all.add(new int[] {from, y, n});
                            left[from] -= n;
                            wanted -= n;
                        }
                    }
                }
            }
            return all;
        }

        int otherwise(List<int[]> rows) {
            for (int k = 0; k < rows.size(); k++) {
                if (priceOf(rows.get(k)[0]) != rows.get(k)[1]) {
                    return k;
                }
            }
            return -5;
        }
    }

    private Told t = new Told();
    private Told image = null;
    private StringBuilder text = new StringBuilder();
    private final int[] sorts = {-1, -1, -1, -1, -1, -1};
    private final long[][] tapes = new long[6][0];

    private boolean noYear(int y) {
        return y < 0 || y >= t.years.size();
    }

    private static boolean out(int v, int least, int most) {
        return v < least || v > most;
    }

    int year(int cap, int emission) {
        if (out(cap, 0, 20) || out(emission, 0, 40)) {
            return -2;
        }
        if (t.years.size() == 5) {
            return -4;
        }
        t.years.add(new int[] {cap, emission});
        return t.years.size() - 1;
    }

    int measure(int year, int cost, int much) {
        if (noYear(year)) {
            return -1;
        }
        if (out(cost, 1, 20) || out(much, 1, 9)) {
            return -2;
        }
        if (t.measures.size() == 10) {
            return -4;
        }
        t.measures.add(new int[] {year, cost, much});
        return t.measures.size() - 1;
    }

    int renew(int what, int k, int v) {
        if (out(what, 0, 3)) {
            return -1;
        }
        List<int[]> rows = what < 2 ? t.years : t.measures;
        if (out(k, 0, rows.size() - 1)) {
            return -1;
        }
        if (what == 0 && out(v, 0, 20) || what == 1 && out(v, 0, 40) || what == 2 && out(v, 1, 20)
            || what == 3 && out(v, 1, 9)) {
            return -2;
        }
        int column = what < 2 ? what : what - 1;
        int was = rows.get(k)[column];
        rows.get(k)[column] = v;
        return was;
    }

    int set(int what, int v) {
        if (out(what, 0, 3)) {
            return -1;
        }
        if (out(v, 0, what == 3 ? 5 : 20)) {
            return -2;
        }
        int was = t.settings[what];
        t.settings[what] = v;
        return was;
    }

    int feed(int sign) {
        if (out(sign, 0, 127)) {
            return -2;
        }
        if (text.length() == 100) {
            return -4;
        }
        text.append((char) sign);
        return text.length();
    }

    int read() {
        String all = text.toString();
        text = new StringBuilder();
        for (int n = 1; n <= all.length(); n++) {
            Matcher m = SET_UP.matcher(all.substring(0, n));
            if (!m.matches() && !m.hitEnd()) {
                return -10 - (n - 1);
            }
        }
        if (!SET_UP.matcher(all).matches()) {
            return -10 - all.length();
        }
        int done = 0;
        for (String clause : all.split(";")) {
            done += clause(clause.charAt(0), clause.substring(1)) >= 0 ? 1 : 0;
        }
        return done;
    }

    private int clause(char kind, String rest) {
        if (kind == 'm') {
            String[] parts = rest.substring(1).split(",");
            return measure(rest.charAt(0) - '0', Integer.parseInt(parts[0]), Integer.parseInt(parts[1]));
        }
        if (kind == 'y') {
            String[] parts = rest.split(",");
            return year(Integer.parseInt(parts[0]), Integer.parseInt(parts[1]));
        }
        return set("fcsl".indexOf(kind), Integer.parseInt(rest));
    }

    int of(int year, int what) {
        if (noYear(year) || out(what, 0, 8)) {
            return -1;
        }
        Out o = new Out(t);
        return new int[] {t.years.get(year)[0], t.years.get(year)[1], o.permits[year], o.groupOf(year),
            o.priceOf(year), o.used(year), o.bank(year), o.borrowed[year], o.merit(year).size()}[what];
    }

    int about(int measure, int what) {
        if (out(measure, 0, t.measures.size() - 1) || out(what, 0, 3)) {
            return -1;
        }
        return what < 3 ? t.measures.get(measure)[what] : new Out(t).done(measure);
    }

    int at(int year, int p, int what) {
        if (noYear(year) || out(what, 0, 1)) {
            return -1;
        }
        if (out(p, 0, 20)) {
            return -2;
        }
        return what == 0 ? new Out(t).high(year, p) : new Out(t).low(year, p);
    }

    int group(int group, int what) {
        Out o = new Out(t);
        if (out(group, 0, o.groups.size() - 1) || out(what, 0, 5)) {
            return -1;
        }
        List<Integer> g = o.groups.get(group);
        return new int[] {g.get(0), g.get(g.size() - 1), o.price(g), o.permitsOf(g), o.shortOf(g), o.usedOf(g)}[what];
    }

    int told(int what) {
        if (out(what, 0, 12)) {
            return -1;
        }
        Out o = new Out(t);
        int lent = Arrays.stream(o.borrowed).sum();
        List<Integer> unlike = new ArrayList<>();
        for (int y = 0; y < t.years.size(); y++) {
            if (!unlike.contains(o.priceOf(y))) {
                unlike.add(o.priceOf(y));
            }
        }
        int[] s = t.settings;
        return new int[] {t.years.size(), t.measures.size(), s[0], s[1], s[2], s[3], o.groups.size(), o.reserve,
            o.taken, o.given, lent, o.shorts(), unlike.size()}[what];
    }

    long total() {
        return new Out(t).total();
    }

    int alone(int year) {
        if (noYear(year)) {
            return -1;
        }
        Told lone = t.copy();
        lone.settings = new int[] {0, 20, 0, 0};
        Out o = new Out(lone);
        o.permits[year] = lone.years.get(year)[0];
        return o.price(List.of(year));
    }

    int way(int from, int to) {
        if (noYear(from) || noYear(to)) {
            return -1;
        }
        for (int[] way : new Out(t).ways()) {
            if (way[0] == from && way[1] == to) {
                return way[2];
            }
        }
        return 0;
    }

    int ways(int k, int what) {
        List<int[]> all = new Out(t).ways();
        if (k == -1) {
            return all.size();
        }
        return out(k, 0, all.size() - 1) || out(what, 0, 2) ? -1 : all.get(k)[what];
    }

    int rank(int k) {
        return out(k, 0, t.measures.size() - 1) ? -1 : new Out(t).ranks().get(k);
    }

    int merit(int year, int k) {
        if (noYear(year) || k < 0) {
            return -1;
        }
        List<Integer> all = new Out(t).merit(year);
        return k < all.size() ? all.get(k) : -5;
    }

    long more(int year) {
        if (noYear(year) || t.years.get(year)[0] == 20) {
            return NO;
        }
        Told then = t.copy();
        then.years.get(year)[0]++;
        return new Out(then).total() - total();
    }

    long shock(int year, int by, int n) {
        if (noYear(year) || noYear(by) || out(n, -9, 9)) {
            return NO;
        }
        Told then = t.copy();
        then.years.get(by)[1] = Math.max(0, then.years.get(by)[1] + n);
        return new Out(then).priceOf(year) - new Out(t).priceOf(year);
    }

    private int priced(List<int[]> rows, int most, int year, int price) {
        if (year == -1) {
            rows.clear();
            return 0;
        }
        if (noYear(year)) {
            return -1;
        }
        if (out(price, 0, 20)) {
            return -2;
        }
        if (rows.size() == most) {
            return -4;
        }
        rows.add(new int[] {year, price});
        return rows.size();
    }

    int see(int year, int price) {
        return priced(t.seen, 5, year, price);
    }

    int fits(int year, int what) {
        if (noYear(year) || out(what, 0, 1)) {
            return -1;
        }
        List<Integer> fit = new ArrayList<>();
        for (int e = 0; e <= 20; e += 2) {
            Told then = t.copy();
            then.years.get(year)[1] = e;
            if (new Out(then).otherwise(t.seen) == -5) {
                fit.add(e);
            }
        }
        return what == 0 ? fit.size() : fit.isEmpty() ? -5 : fit.get(0);
    }

    private static long fraction(int above, int below, int part) {
        int a = above;
        int b = below;
        while (a != 0) {
            int r = b % a;
            b = a;
            a = r;
        }
        return part == 0 ? above / b : below / b;
    }

    long odds(int year, int part) {
        if (noYear(year) || out(part, 0, 1)) {
            return NO;
        }
        int above = 0;
        for (int cap = 0; cap <= 9; cap++) {
            Told then = t.copy();
            then.years.get(year)[0] = cap;
            above += new Out(then).priceOf(year) > t.settings[1] ? 1 : 0;
        }
        return fraction(above, 10, part);
    }

    long mean(int part) {
        if (t.years.isEmpty() || out(part, 0, 1)) {
            return NO;
        }
        Out o = new Out(t);
        int sum = 0;
        for (int y = 0; y < t.years.size(); y++) {
            sum += o.priceOf(y);
        }
        return fraction(sum, t.years.size(), part);
    }

    int event(int what, int n) {
        if (what == -1) {
            t.events.clear();
            return 0;
        }
        if (out(what, 0, 3) || what < 2 && noYear(n)) {
            return -1;
        }
        if (what == 2 && out(n, 0, 5) || what == 3 && out(n, 0, 20)) {
            return -2;
        }
        if (t.events.size() == 8) {
            return -4;
        }
        t.events.add(new int[] {what, n});
        return t.events.size();
    }

    long after(int what) {
        if (out(what, 0, 2)) {
            return NO;
        }
        Told then = t.copy();
        for (int[] event : t.events) {
            int n = event[1];
            switch (event[0]) {
                case 0 -> then.years.get(n)[0] = 0;
                case 1 -> then.years.get(n)[1] = Math.min(40, then.years.get(n)[1] + 5);
                case 2 -> then.settings[3] = n;
                default -> then.settings[0] = n;
            }
        }
        Out o = new Out(then);
        return new long[] {o.total(), o.groups.size(), o.reserve}[what];
    }

    int book(int year, int price) {
        return priced(t.book, 8, year, price);
    }

    int looked() {
        return new Out(t).otherwise(t.book);
    }

    int judge(int tape, int i) {
        if (out(tape, 0, 5)) {
            return -1;
        }
        if (sorts[tape] != -1 && sorts[tape] != 3) {
            return -12;
        }
        if (t.years.isEmpty()) {
            return -5;
        }
        if (i < 0 || sorts[tape] == -1) {
            return 100;
        }
        Out o = new Out(t);
        for (int y = 0; y < t.years.size(); y++) {
            if ((long) i + y >= tapes[tape].length) {
                return 100 + y;
            }
            if (tapes[tape][i + y] != o.priceOf(y)) {
                return y;
            }
        }
        return -5;
    }

    int image() {
        image = t.copy();
        return t.years.size();
    }

    int undo() {
        if (image == null) {
            return -3;
        }
        t = image.copy();
        return t.years.size();
    }

    int count(int what) {
        if (out(what, 0, 3)) {
            return -2;
        }
        return new int[] {t.seen.size(), t.events.size(), t.book.size(), text.length()}[what];
    }

    int tape(int tape, int sort, int n) {
        if (out(tape, 0, 5)) {
            return -1;
        }
        if (out(sort, -1, 4) || sort != -1 && n > 60) {
            return -2;
        }
        if (sort != -1 && n < 0) {
            return -14;
        }
        sorts[tape] = sort;
        tapes[tape] = new long[sort == -1 ? 0 : n];
        return 1;
    }

    int item(int tape, int i, long v) {
        if (out(tape, 0, 5)) {
            return -1;
        }
        if (sorts[tape] == -1) {
            return -11;
        }
        if (i < 0 || i >= tapes[tape].length) {
            return -13;
        }
        tapes[tape][i] = new long[] {(byte) v, (short) v, (int) v, v, v != 0 ? 1 : 0}[sorts[tape]];
        return 1;
    }

    long peek(int tape, int i) {
        if (out(tape, 0, 5) || i < 0 || i >= tapes[tape].length) {
            return NO;
        }
        return tapes[tape][i];
    }

    int shift(int tape, int i, int other, int j, int n) {
        if (out(tape, 0, 5) || out(other, 0, 5)) {
            return -1;
        }
        if (sorts[tape] == -1 || sorts[other] == -1) {
            return -11;
        }
        if (sorts[tape] != sorts[other]) {
            return -12;
        }
        if (n < 0 || i < 0 || j < 0 || (long) i + n > tapes[tape].length || (long) j + n > tapes[other].length) {
            return -13;
        }
        long[] before = tapes[tape].clone();
        for (int k = 0; k < n; k++) {
            tapes[other][j + k] = before[i + k];
        }
        return n;
    }
}

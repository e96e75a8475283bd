import java.util.ArrayList;
import java.util.List;
import java.util.regex.Matcher;
import java.util.regex.Pattern;

/**
 * The document told a second time, as slowly as it reads, with the Java library and without regard
 * to LANGUAGE.md. Its methods bear the names of the class's, so that ModelTest can call both.
 */
final class Model {
    private static final int KIND = 0, A = 1, SCHOOL = 2, LIKES = 3, FRIEND = 4, OWES = 5, SILENT = 6, LENGTH = 7;
    private static final int[] ABOVE = {-1, 0, 0, 1, 2, 0};

    private static final class World {
        List<int[]> pupils = new ArrayList<>();
        int loss = 1, toil = 1, friday = 0, week = 0, seed = 1;

        World copyOf() {
            World w = new World();
            for (int[] p : pupils) {
                w.pupils.add(p.clone());
            }
            w.loss = loss;
            w.toil = toil;
            w.friday = friday;
            w.week = week;
            w.seed = seed;
            return w;
        }

        boolean has(int p) {
            return p >= 0 && p < pupils.size();
        }

        int of(int p, int what) {
            return pupils.get(p)[what];
        }

        void put(int p, int what, int v) {
            pupils.get(p)[what] = v;
        }

        int add(int kind, int a, int school) {
            pupils.add(new int[] {kind, a, school, 0, -1, 0, 0, 0});
            return pupils.size() - 1;
        }

        void unite(int x, int y) {
            for (int p : new int[] {x, y}) {
                put(p, FRIEND, p == x ? y : x);
                put(p, OWES, p == x ? 1 : 0);
                put(p, SILENT, 0);
                put(p, LENGTH, 0);
            }
        }

        void sever(int x) {
            for (int p : new int[] {of(x, FRIEND), x}) {
                for (int what : new int[] {OWES, SILENT, LENGTH}) {
                    put(p, what, 0);
                }
                put(p, FRIEND, -1);
            }
        }

        int common(int p, int q) {
            int many = 0;
            for (int bit = 0; bit < 8; bit++) {
                many += (of(p, LIKES) >> bit) & (of(q, LIKES) >> bit) & 1;
            }
            return many;
        }

        private int willAs(int kind, int p, int f, int silent) {
            switch (kind) {
                case 0:
                    return 4 + 2 * common(p, f) - toil - silent / 3;
                case 1:
                    return willAs(0, p, f, silent) + 1;
                case 2:
                    return willAs(0, p, f, silent) - silent;
                case 3:
                    return willAs(1, p, f, silent) - of(p, LENGTH) / 4;
                case 4:
                    return silent >= of(p, A) ? 0 : willAs(2, p, f, silent);
                default:
                    return willAs(0, p, f, silent) + of(p, A) / 3;
            }
        }

        int will(int p, int f, int silent) {
            int w = willAs(of(p, KIND), p, f, silent) + 2 * friday;
            return w < 0 ? 0 : w > 12 ? 12 : w;
        }

        int will(int p) {
            return will(p, of(p, FRIEND), of(p, SILENT));
        }

        private int linesAs(int kind, int p, int f) {
            switch (kind) {
                case 0:
                    return 5 + of(p, A) + of(f, LENGTH) / 2;
                case 1:
                    return 2 * linesAs(0, p, f);
                case 3:
                    return 5 + linesAs(1, p, f);
                case 5:
                    return Math.max(of(f, LENGTH), 1);
                default:
                    return Math.max(linesAs(0, p, f) - of(p, SILENT), 1);
            }
        }

        int lines(int p, int f) {
            int l = Math.min(99, linesAs(of(p, KIND), p, f));
            return friday == 1 ? Math.min(10, l) : l;
        }

        int debtor(int p) {
            return of(p, OWES) == 1 ? p : of(p, FRIEND);
        }

        boolean isOver(int p) {
            return will(debtor(p)) == 0;
        }

        List<Integer> heads() {
            List<Integer> heads = new ArrayList<>();
            for (int p = 0; p < pupils.size(); p++) {
                if (of(p, SCHOOL) == 0 && of(p, FRIEND) != -1) {
                    heads.add(p);
                }
            }
            return heads;
        }

        List<Integer> all(int school) {
            List<Integer> all = new ArrayList<>();
            for (int p = 0; p < pupils.size(); p++) {
                if (of(p, SCHOOL) == school) {
                    all.add(p);
                }
            }
            return all;
        }

        List<Integer> lonely(int school) {
            List<Integer> lonely = all(school);
            lonely.removeIf(p -> of(p, FRIEND) != -1);
            return lonely;
        }

        void writes(int p, boolean comes) {
            put(p, LENGTH, lines(p, of(p, FRIEND)));
            put(p, SILENT, 0);
            if (comes) {
                put(p, OWES, 0);
                put(of(p, FRIEND), OWES, 1);
            }
        }

        void isSilent(int p) {
            put(p, SILENT, Math.min(99, of(p, SILENT) + 1));
        }

        int still(int p, int n) {
            int d = debtor(p);
            long left = 1000000;
            for (int week = 0; week < n; week++) {
                left = left * (144 - will(d, of(d, FRIEND), Math.min(99, of(d, SILENT) + week)) * (12 - loss)) / 144;
            }
            return (int) (1000000 - left);
        }

        int lengths() {
            return pupils.stream().mapToInt(p -> p[LENGTH]).sum();
        }

        int best(int p) {
            int found = -1;
            for (int q : all(1 - of(p, SCHOOL))) {
                if (found == -1 || common(p, q) > common(p, found)) {
                    found = q;
                }
            }
            return found;
        }

        /** The index of the first wrong deed, or -1; the deeds ahead of it are done. */
        int tell(long[] deeds) {
            for (int i = 0; i < deeds.length; i++) {
                int done = 0;
                for (int p = 0; p < pupils.size(); p++) {
                    boolean can = of(p, FRIEND) != -1 && of(p, OWES) == 1;
                    for (int way = 1; can && way <= 3 && done == 0; way++) {
                        if (deeds[i] == 100 * way + p && (way == 3 ? will(p) < 12 : will(p) > 0)) {
                            done = way;
                            if (way == 3) {
                                isSilent(p);
                            } else {
                                writes(p, way == 1);
                            }
                        }
                    }
                    if (done != 0) {
                        break;
                    }
                }
                if (done == 0) {
                    return i;
                }
            }
            return -1;
        }

        int draw(int below) {
            seed = (int) (seed * 1103515245L + 12345L);
            return (int) (((seed & 0xFFFFFFFFL) >> 16) % below);
        }
    }

    /** Every way to pair, by rows, NONE first; the first of the best is kept. */
    private static final class Ways {
        final World w;
        final List<Integer> rows;
        final List<Integer> columns;
        final int[] now;
        int[] best;
        int bestTogether = -1;
        int bestPairs = -1;

        Ways(World w) {
            this.w = w;
            List<Integer> lonely = w.lonely(0);
            rows = lonely.subList(0, Math.min(6, lonely.size()));
            columns = w.lonely(1);
            now = new int[rows.size()];
            go(0, 0, 0);
        }

        private void go(int row, int together, int pairs) {
            if (row == rows.size()) {
                if (together > bestTogether || (together == bestTogether && pairs > bestPairs)) {
                    bestTogether = together;
                    bestPairs = pairs;
                    best = now.clone();
                }
                return;
            }
            now[row] = -1;
            go(row + 1, together, pairs);
            for (int i = 0; i < columns.size(); i++) {
                int other = columns.get(i);
                if (other >= 0) {
                    columns.set(i, -1);
                    now[row] = other;
                    go(row + 1, together + w.common(rows.get(row), other), pairs + 1);
                    columns.set(i, other);
                }
            }
        }
    }

    private World w = new World();
    private World kept = null;
    private final Object[] shelves = new Object[8];
    private final StringBuilder tape = new StringBuilder();
    private final int[] refused = new int[7];

    private static final class Row {
        int sort;
        long[] cells;
    }

    private int refuse(int number) {
        refused[-number]++;
        return number;
    }

    private static boolean in(long v, long from, long to) {
        return from <= v && v <= to;
    }

    public int row(int s, int sort, int n) {
        if (!in(s, 0, 7) || !in(sort, 0, 4) || !in(n, 0, 40)) {
            return refuse(-2);
        }
        Row row = new Row();
        row.sort = sort;
        row.cells = new long[n];
        shelves[s] = row;
        return 1;
    }

    public int set(int s, int i, long v) {
        int no = rowRefused(s, true);
        if (no != 0) {
            return refuse(no);
        }
        Row row = (Row) shelves[s];
        if (!in(i, 0, row.cells.length - 1)) {
            return refuse(-2);
        }
        switch (row.sort) {
            case 0: row.cells[i] = (byte) v; break;
            case 1: row.cells[i] = (short) v; break;
            case 2: row.cells[i] = (int) v; break;
            case 3: row.cells[i] = v; break;
            default: row.cells[i] = v == 0 ? 0 : 1; break;
        }
        return 1;
    }

    /** BAD, OTHER, NOTHING for a shelf and whatever else must be right ahead of it; 0. */
    private int rowRefused(int s, boolean restFits) {
        if (!in(s, 0, 7) || !restFits) {
            return -2;
        }
        if (shelves[s] instanceof Integer) {
            return -3;
        }
        return shelves[s] == null ? -4 : 0;
    }

    public int copy(int p, int q, int i, int j, int n) {
        if (!in(p, 0, 7) || !in(q, 0, 7)) {
            return refuse(-2);
        }
        Object a = shelves[p];
        Object b = shelves[q];
        if (a instanceof Integer || b instanceof Integer) {
            return refuse(-3);
        }
        if (a != null && b != null && ((Row) a).sort != ((Row) b).sort) {
            return refuse(-3);
        }
        if (a == null || b == null) {
            return refuse(-4);
        }
        long[] from = ((Row) a).cells.clone();
        long[] to = ((Row) b).cells;
        if (i < 0 || j < 0 || n < 0 || (long) i + n > from.length || (long) j + n > to.length) {
            return refuse(-2);
        }
        for (int k = 0; k < n; k++) {
            to[j + k] = from[i + k];
        }
        return n;
    }

    public long element(int s, int i) {
        if (!in(s, 0, 7) || !(shelves[s] instanceof Row)) {
            return 0;
        }
        long[] cells = ((Row) shelves[s]).cells;
        return in(i, 0, cells.length - 1) ? cells[i] : 0;
    }

    public int holds(int s) {
        if (!in(s, 0, 7) || shelves[s] == null) {
            return -1;
        }
        return shelves[s] instanceof Row ? ((Row) shelves[s]).sort : 10 + (Integer) shelves[s];
    }

    public int show(int s, int pupil) {
        if (!in(s, 0, 7) || (pupil != -1 && !w.has(pupil))) {
            return refuse(-2);
        }
        shelves[s] = pupil == -1 ? null : (Integer) pupil;
        return 1;
    }

    public int says(int s, int kind) {
        if (!in(s, 0, 7) || !in(kind, 0, 5)) {
            return refuse(-2);
        }
        if (shelves[s] instanceof Row) {
            return refuse(-3);
        }
        if (shelves[s] == null) {
            return refuse(-4);
        }
        int p = (Integer) shelves[s];
        int is = w.of(p, KIND);
        while (is != -1 && is != kind) {
            is = ABOVE[is];
        }
        if (is == -1) {
            return refuse(-3);
        }
        if (kind == 0) {
            return w.of(p, LIKES);
        }
        if (w.of(p, FRIEND) == -1) {
            return 0;
        }
        return kind == 2 || kind == 4 ? w.will(p) : w.lines(p, w.of(p, FRIEND));
    }

    public int pupil(int kind, int a, int school) {
        if (!in(kind, 0, 5) || !in(a, 0, 9) || !in(school, 0, 1)) {
            return refuse(-2);
        }
        return w.pupils.size() == 12 ? refuse(-6) : w.add(kind, a, school);
    }

    public int likes(int pupil, int bit, boolean is) {
        if (!w.has(pupil) || !in(bit, 0, 7)) {
            return refuse(-2);
        }
        int before = w.of(pupil, LIKES);
        int without = (before | (1 << bit)) - (1 << bit);
        w.put(pupil, LIKES, is ? without + (1 << bit) : without);
        return before == without ? 0 : 1;
    }

    public int pair(int pupil, int other) {
        if (!w.has(pupil) || !w.has(other)) {
            return refuse(-2);
        }
        if (!w.lonely(0).contains(pupil) || !w.lonely(1).contains(other)) {
            return refuse(-5);
        }
        w.unite(pupil, other);
        return w.common(pupil, other);
    }

    /** BAD, STUCK for a pupil who must have a friend, and what else must be right; 0. */
    private int friendRefused(int pupil, boolean restFits) {
        if (!w.has(pupil) || !restFits) {
            return -2;
        }
        return w.of(pupil, FRIEND) == -1 ? -5 : 0;
    }

    public int part(int pupil) {
        int no = friendRefused(pupil, true);
        if (no != 0) {
            return refuse(no);
        }
        int was = w.of(pupil, FRIEND);
        w.sever(pupil);
        return was;
    }

    public int ask(int what, int v) {
        int before;
        if (what == 0 && in(v, 0, 12)) {
            before = w.loss;
            w.loss = v;
        } else if (what == 1 && in(v, 0, 9)) {
            before = w.toil;
            w.toil = v;
        } else if (what == 2 && in(v, 0, 1)) {
            before = w.friday;
            w.friday = v;
        } else {
            return refuse(-2);
        }
        return before;
    }

    public int feed(int letter) {
        if (!in(letter, 0, 255)) {
            return refuse(-2);
        }
        if (tape.length() == 250) {
            return refuse(-6);
        }
        tape.append((char) letter);
        return tape.length();
    }

    public int wipe() {
        int before = tape.length();
        tape.setLength(0);
        return before;
    }

    private static final class Fault extends RuntimeException {
        private static final long serialVersionUID = 1L;
        final int place;

        Fault(int place) {
            this.place = place;
        }
    }

    /** The tokens of a text, with their places; the last one is "", at the text's size. */
    private static final class Tokens {
        final List<String> texts = new ArrayList<>();
        final List<Integer> places = new ArrayList<>();
        int next = 0;

        Tokens(String text) {
            Matcher m = Pattern.compile("[a-z]+|[0-9]+|[^ ]").matcher(text);
            while (m.find()) {
                texts.add(m.group());
                places.add(m.start());
            }
            texts.add("");
            places.add(text.length());
        }

        String take() {
            return texts.get(next++);
        }

        Fault fault() {
            return new Fault(places.get(next - 1));
        }

        int number(int from, int to) {
            String t = take();
            if (!t.matches("[0-9]{1,2}") || !in(Integer.parseInt(t), from, to)) {
                throw fault();
            }
            return Integer.parseInt(t);
        }

        int oneOf(List<Integer> few) {
            int p = number(0, 99);
            if (!few.contains(p)) {
                throw fault();
            }
            return p;
        }
    }

    private static void statement(World to, Tokens t) {
        switch (t.take()) {
            case "pupil":
                if (to.pupils.size() == 12) {
                    throw t.fault();
                }
                to.add(t.number(0, 5), t.number(0, 9), t.number(0, 1));
                break;
            case "likes": {
                int p = t.number(0, to.pupils.size() - 1);
                to.put(p, LIKES, to.of(p, LIKES) | (1 << t.number(0, 7)));
                break;
            }
            case "pair":
                to.unite(t.oneOf(to.lonely(0)), t.oneOf(to.lonely(1)));
                break;
            case "part": {
                int p = t.number(0, to.pupils.size() - 1);
                if (to.of(p, FRIEND) == -1) {
                    throw t.fault();
                }
                to.sever(p);
                break;
            }
            case "loss":
                to.loss = t.number(0, 12);
                break;
            case "toil":
                to.toil = t.number(0, 9);
                break;
            case "friday":
                to.friday = t.number(0, 1);
                break;
            default:
                throw t.fault();
        }
    }

    public int list() {
        World to = w.copyOf();
        Tokens t = new Tokens(tape.toString());
        tape.setLength(0);
        int statements = 0;
        try {
            String behind = ";";
            while (behind.equals(";")) {
                statement(to, t);
                statements++;
                behind = t.take();
                if (!behind.equals(";") && !behind.isEmpty()) {
                    throw t.fault();
                }
            }
        } catch (Fault f) {
            refuse(-2);
            return -20 - f.place;
        }
        w = to;
        return statements;
    }

    public int pupilOf(int pupil, int what) {
        return w.has(pupil) && in(what, 0, 7) ? w.of(pupil, what) : refuse(-2);
    }

    public int common(int pupil, int other) {
        return w.has(pupil) && w.has(other) ? w.common(pupil, other) : refuse(-2);
    }

    public int will(int pupil, int what) {
        int no = friendRefused(pupil, in(what, 0, 1));
        if (no != 0) {
            return refuse(no);
        }
        return what == 0 ? w.will(pupil) : w.lines(pupil, w.of(pupil, FRIEND));
    }

    public int over(int pupil) {
        int no = friendRefused(pupil, true);
        if (no != 0) {
            return refuse(no);
        }
        return w.isOver(pupil) ? 1 : 0;
    }

    public int still(int pupil, int n) {
        int no = friendRefused(pupil, in(n, 0, 12));
        return no != 0 ? refuse(no) : w.still(pupil, n);
    }

    public int again(int pupil, int v) {
        int no = friendRefused(pupil, in(v, 0, 1000000));
        if (no != 0) {
            return refuse(no);
        }
        int n = 1;
        while (n <= 12 && w.still(pupil, n) < v) {
            n++;
        }
        return n <= 12 ? n : -1;
    }

    public int lost(int pupil, int s) {
        int no = friendRefused(pupil, in(s, 0, 40));
        if (no != 0) {
            return refuse(no);
        }
        int d = w.debtor(pupil);
        long l = 1000000;
        long n = 1000000;
        for (int i = 0; i < s; i++) {
            l = l * w.loss / 12;
            n = n * (12 - w.will(d, w.of(d, FRIEND), 0)) / 12;
        }
        return l + n == 0 ? 0 : (int) (1000 * l / (l + n));
    }

    public int paired(int i) {
        Ways ways = new Ways(w);
        if (i == -1) {
            return ways.bestTogether;
        }
        return in(i, 0, ways.rows.size() - 1) ? ways.best[i] : refuse(-2);
    }

    public int left() {
        Ways ways = new Ways(w);
        return w.lonely(0).size() + w.lonely(1).size() - 2 * ways.bestPairs;
    }

    public int best(int pupil) {
        if (!w.has(pupil)) {
            return refuse(-2);
        }
        int found = w.best(pupil);
        return found == -1 ? refuse(-5) : found;
    }

    public int same(int what) {
        if (!in(what, 0, 2)) {
            return refuse(-2);
        }
        if (what == 2) {
            for (int p = 0; p < w.pupils.size(); p++) {
                for (int q = p + 1; q < w.pupils.size(); q++) {
                    if (w.of(p, SCHOOL) == w.of(q, SCHOOL) && w.of(p, LIKES) == w.of(q, LIKES)) {
                        return 20 * p + q;
                    }
                }
            }
            return -1;
        }
        int most = -1;
        int found = 0;
        for (int bit = 0; bit < 8; bit++) {
            int many = 0;
            for (int[] p : w.pupils) {
                many += (p[LIKES] >> bit) & 1;
            }
            if (many > most) {
                most = many;
                found = bit;
            }
        }
        return what == 0 ? found : most;
    }

    public int may() {
        return (int) w.heads().stream().filter(p -> !w.isOver(p)).count();
    }

    public int fridays() {
        World a = w.copyOf();
        World b = w.copyOf();
        a.friday = 1;
        b.friday = 0;
        int more = 0;
        for (int p : w.heads()) {
            more += a.still(p, 4) - b.still(p, 4);
        }
        return more;
    }

    public int tongue() {
        for (int toil = 9; toil >= 0; toil--) {
            World a = w.copyOf();
            a.toil = toil;
            if (a.heads().stream().noneMatch(a::isOver)) {
                return toil;
            }
        }
        return -1;
    }

    public int first(int school, int what) {
        if (!in(school, 0, 1) || !in(what, 0, 2)) {
            return refuse(-2);
        }
        int found = -1;
        int most = -1;
        for (int p : w.all(school)) {
            int has = what == 0 ? w.of(p, LENGTH) : what == 1 ? w.of(p, SILENT) : w.common(p, p);
            if (has > most) {
                most = has;
                found = p;
            }
        }
        return found == -1 ? refuse(-5) : found;
    }

    public int mean() {
        List<Integer> heads = w.heads();
        if (heads.isEmpty()) {
            return refuse(-5);
        }
        return 1000 * heads.stream().mapToInt(p -> w.common(p, w.of(p, FRIEND))).sum() / heads.size();
    }

    public int weakest(int n) {
        if (!in(n, 0, 12)) {
            return refuse(-2);
        }
        int found = -1;
        for (int p : w.heads()) {
            if (found == -1 || w.still(p, n) < w.still(found, n)) {
                found = p;
            }
        }
        return found == -1 ? refuse(-5) : found;
    }

    public int with(int n) {
        if (!in(n, 0, 8)) {
            return refuse(-2);
        }
        int bits = 0;
        for (int p = 0; p < w.pupils.size(); p++) {
            bits += w.common(p, p) == n ? 1 << p : 0;
        }
        return bits;
    }

    public int near(int pupil, int v) {
        if (!w.has(pupil) || !in(v, 0, 8)) {
            return refuse(-2);
        }
        return w.all(1 - w.of(pupil, SCHOOL)).stream().filter(q -> w.common(pupil, q) >= v).mapToInt(q -> 1 << q).sum();
    }

    public int lasts(int pupil) {
        int no = friendRefused(pupil, true);
        if (no != 0) {
            return refuse(no);
        }
        for (int n = 0; n <= 99; n++) {
            World a = w.copyOf();
            a.put(pupil, SILENT, w.of(pupil, SILENT) + n);
            if (a.will(pupil) == 0) {
                return n;
            }
        }
        return -1;
    }

    public int wish(int pupil) {
        int no = friendRefused(pupil, true);
        if (no != 0) {
            return refuse(no);
        }
        int f = w.of(pupil, FRIEND);
        int found = -1;
        int most = 0;
        for (int bit = 0; bit < 8; bit++) {
            World a = w.copyOf();
            a.put(pupil, LIKES, w.of(pupil, LIKES) | (1 << bit));
            int more = a.will(f) - w.will(f);
            if (more > most) {
                most = more;
                found = bit;
            }
        }
        return found;
    }

    public int asPair(int pupil, int other, int what) {
        if (!w.has(pupil) || !w.has(other) || w.of(pupil, SCHOOL) == w.of(other, SCHOOL) || !in(what, 0, 1)) {
            return refuse(-2);
        }
        return what == 0 ? w.will(pupil, other, w.of(pupil, SILENT)) : w.lines(pupil, other);
    }

    public int wanted(int v) {
        if (!in(v, 0, 8)) {
            return refuse(-2);
        }
        return (int) w.all(0).stream().filter(p -> w.best(p) != -1 && w.common(p, w.best(p)) >= v).count();
    }

    public int bears(int pupil, int n, int v) {
        int no = friendRefused(pupil, in(n, 0, 12) && in(v, 0, 1000000));
        if (no != 0) {
            return refuse(no);
        }
        int found = -1;
        for (int loss = 0; loss <= 12; loss++) {
            World a = w.copyOf();
            a.loss = loss;
            found = a.still(pupil, n) >= v ? loss : found;
        }
        return found;
    }

    public int drift(int pupil, int n) {
        int no = friendRefused(pupil, in(n, 0, 40));
        if (no != 0) {
            return refuse(no);
        }
        World a = w.copyOf();
        for (int i = 0; i < n; i++) {
            a.writes(a.debtor(pupil), true);
        }
        return a.of(a.of(a.debtor(pupil), FRIEND), LENGTH);
    }

    public int alike() {
        return (int) w.heads().stream().filter(p -> w.of(p, LENGTH) == w.of(w.of(p, FRIEND), LENGTH)).count();
    }

    public int keen() {
        int found = -1;
        for (int p = 0; p < w.pupils.size(); p++) {
            if (w.of(p, OWES) == 1 && (found == -1 || w.will(p) > w.will(found))) {
                found = p;
            }
        }
        return found == -1 ? refuse(-5) : found;
    }

    public int owing() {
        int bits = 0;
        for (int p = 0; p < w.pupils.size(); p++) {
            bits |= w.of(p, OWES) << p;
        }
        return bits;
    }

    /** The refusal of the first n elements of a row, or 0. */
    private int toldRefused(int s, int n, boolean restFits) {
        int no = rowRefused(s, in(n, 0, 40) && restFits);
        return no != 0 ? no : ((Row) shelves[s]).cells.length < n ? -2 : 0;
    }

    private long[] told(int s, int n) {
        long[] told = new long[n];
        for (int i = 0; i < n; i++) {
            told[i] = ((Row) shelves[s]).cells[i];
        }
        return told;
    }

    public int meant(int s, int n, int pupil) {
        int no = toldRefused(s, n, w.has(pupil));
        if (no != 0) {
            return refuse(no);
        }
        long[] told = told(s, n);
        boolean fits = w.of(pupil, FRIEND) != -1 && w.of(pupil, OWES) == 1;
        for (long t : told) {
            fits &= in(t, 0, 1);
        }
        if (!fits) {
            return refuse(-5);
        }
        int kinds = 0;
        for (int kind = 0; kind < 6; kind++) {
            World a = w.copyOf();
            a.put(pupil, KIND, kind);
            boolean against = false;
            for (long t : told) {
                int will = a.will(pupil);
                against |= will == (t == 1 ? 0 : 12);
                if (t == 1) {
                    a.writes(pupil, true);
                    a.put(pupil, OWES, 1);
                    a.put(a.of(pupil, FRIEND), OWES, 0);
                } else {
                    a.isSilent(pupil);
                }
            }
            kinds += against ? 0 : 1 << kind;
        }
        return kinds;
    }

    public int judge(int s, int n) {
        int no = toldRefused(s, n, true);
        return no != 0 ? refuse(no) : w.copyOf().tell(told(s, n));
    }

    public int behind(int s, int n, int what) {
        int no = toldRefused(s, n, in(what, 0, 2));
        if (no != 0) {
            return refuse(no);
        }
        World a = w.copyOf();
        if (a.tell(told(s, n)) != -1) {
            return refuse(-5);
        }
        if (what == 0) {
            return a.lengths();
        }
        return what == 1 ? a.pupils.stream().mapToInt(p -> p[SILENT]).max().orElse(0) : (int) a.heads().stream().filter(a::isOver).count();
    }

    public int done(int s, int n) {
        int no = toldRefused(s, n, true);
        if (no != 0) {
            return refuse(no);
        }
        World a = w.copyOf();
        if (a.tell(told(s, n)) != -1) {
            return refuse(-5);
        }
        w = a;
        return w.lengths();
    }

    public int weeks(int n) {
        if (!in(n, 1, 99)) {
            return refuse(-2);
        }
        int came = 0;
        for (int i = 0; i < n; i++) {
            w.week++;
            for (int p : w.heads()) {
                int d = w.debtor(p);
                if (w.draw(12) < w.will(d)) {
                    boolean isLost = w.draw(12) < w.loss;
                    w.writes(d, !isLost);
                    came += isLost ? 0 : 1;
                } else {
                    w.isSilent(d);
                }
            }
        }
        return came;
    }

    public int anew() {
        for (int p : w.heads()) {
            if (w.isOver(p)) {
                w.sever(p);
            }
        }
        Ways ways = new Ways(w);
        for (int i = 0; i < ways.rows.size(); i++) {
            if (ways.best[i] != -1) {
                w.unite(ways.rows.get(i), ways.best[i]);
            }
        }
        return ways.bestPairs;
    }

    public int seed(int v) {
        int before = w.seed;
        w.seed = v;
        return before;
    }

    public int image() {
        kept = w.copyOf();
        return 1;
    }

    public int back() {
        if (kept == null) {
            return refuse(-5);
        }
        w = kept.copyOf();
        for (int s = 0; s < 8; s++) {
            if (shelves[s] instanceof Integer && !w.has((Integer) shelves[s])) {
                shelves[s] = null;
            }
        }
        return 1;
    }

    public int status(int what) {
        int held = 0;
        for (Object o : shelves) {
            held += o == null ? 0 : 1;
        }
        int[] first = {w.pupils.size(), w.heads().size(), w.loss, w.toil, w.friday, w.week, w.lengths(), tape.length(), w.seed, held};
        if (in(what, 0, 9)) {
            return first[what];
        }
        return in(what, 12, 16) ? refused[what - 10] : -1;
    }
}

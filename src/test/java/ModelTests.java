import java.util.ArrayDeque;
import java.util.ArrayList;
import java.util.Deque;
import java.util.HashMap;
import java.util.List;
import java.util.Map;
import java.util.TreeMap;
import java.util.TreeSet;

/**
 * Long runs of calls, drawn by a fixed rule, on CarriedOrders and on a slow model that follows the
 * document's words one by one: it crashes and raises copies for what would be lost, looks for what
 * is kept by taking receipts away until nothing is left to take, and walks a past anew each time.
 */
public final class ModelTests {
    private static final int BAD = -1, STATE = -2, FULL = -3, NONE = -9;
    private static final int RUNS = 6000;
    private static final int CALLS = 512;

    static final class Letter {
        int x, y, number, content, birth;
        TreeMap<Integer, TreeSet<Integer>> carries = new TreeMap<>();

        Letter copy() {
            Letter l = new Letter();
            l.x = x;
            l.y = y;
            l.number = number;
            l.content = content;
            l.birth = birth;
            l.carries = copyOf(carries);
            return l;
        }
    }

    static final class Receipt {
        int from, number, behind, birth;
    }

    static final class Site {
        boolean down;
        int first, state;
        List<Receipt> receipts = new ArrayList<>();
        TreeMap<Integer, TreeSet<Integer>> knows = new TreeMap<>();

        Site copy() {
            Site s = new Site();
            s.down = down;
            s.first = first;
            s.state = state;
            s.receipts.addAll(receipts);
            s.knows = copyOf(knows);
            return s;
        }
    }

    static TreeMap<Integer, TreeSet<Integer>> copyOf(TreeMap<Integer, TreeSet<Integer>> of) {
        TreeMap<Integer, TreeSet<Integer>> made = new TreeMap<>();
        for (Map.Entry<Integer, TreeSet<Integer>> e : of.entrySet()) {
            made.put(e.getKey(), new TreeSet<>(e.getValue()));
        }
        return made;
    }

    /** All that part 1 of the terms tells. */
    static final class All {
        int n = 3, enough = 2, orphans;
        List<Site> sites = new ArrayList<>();
        List<Letter> letters = new ArrayList<>();

        All(int n, int enough) {
            this.n = n;
            this.enough = enough;
            for (int q = 0; q < n; q++) {
                Site s = new Site();
                s.first = s.state = q + 1;
                sites.add(s);
            }
        }

        All copy() {
            All a = new All(n, enough);
            a.sites.clear();
            for (Site s : sites) {
                a.sites.add(s.copy());
            }
            for (Letter l : letters) {
                a.letters.add(l.copy());
            }
            return a;
        }

        List<Letter> from(int x, int y) {
            List<Letter> some = new ArrayList<>();
            for (Letter l : letters) {
                if (l.x == x && l.y == y) {
                    some.add(l);
                }
            }
            for (int k = 0; k < some.size(); k++) {
                if (some.get(k).number != k) {
                    throw new IllegalStateException("the model's letters are numbered otherwise");
                }
            }
            return some;
        }

        boolean received(Letter l) {
            for (Receipt r : sites.get(l.y).receipts) {
                if (r.from == l.x && r.number == l.number) {
                    return true;
                }
            }
            return false;
        }

        Letter next(int x, int y) {
            for (Letter l : from(x, y)) {
                if (!received(l)) {
                    return l;
                }
            }
            return null;
        }

        int write(int x, int y, int content, int birth) {
            Letter l = new Letter();
            l.x = x;
            l.y = y;
            l.number = from(x, y).size();
            l.content = content;
            l.birth = birth;
            if (x < n) {
                for (Map.Entry<Integer, TreeSet<Integer>> e : sites.get(x).knows.entrySet()) {
                    if (e.getValue().size() < enough) {
                        l.carries.put(e.getKey(), new TreeSet<>(e.getValue()));
                    }
                }
            }
            letters.add(l);
            return l.number;
        }

        int receive(int y, Letter l) {
            Site s = sites.get(y);
            int code = 8 * y + s.receipts.size();
            Receipt r = new Receipt();
            r.from = l.x;
            r.number = l.number;
            r.birth = l.birth;
            s.receipts.add(r);
            TreeSet<Integer> alone = new TreeSet<>();
            alone.add(y);
            s.knows.put(code, alone);
            for (Map.Entry<Integer, TreeSet<Integer>> e : l.carries.entrySet()) {
                TreeSet<Integer> known = s.knows.computeIfAbsent(e.getKey(), c -> new TreeSet<>());
                known.addAll(e.getValue());
                known.add(y);
            }
            s.state = (31 * s.state + l.content + l.x + 1) % 997;
            r.behind = s.state;
            int z = s.state % n;
            if (s.state % 3 != 0 && z != y && from(y, z).size() < 8) {
                write(y, z, s.state % 100, code);
            }
            return s.state;
        }

        int down() {
            int bits = 0;
            for (int q = 0; q < n; q++) {
                bits |= sites.get(q).down ? 1 << q : 0;
            }
            return bits;
        }

        void crash(int q) {
            sites.get(q).down = true;
            sites.get(q).knows.clear();
        }

        boolean heldByUp(int code) {
            for (Site s : sites) {
                if (!s.down && s.knows.containsKey(code)) {
                    return true;
                }
            }
            return false;
        }

        int[] kept() {
            int[] kept = new int[n];
            for (int q = 0; q < n; q++) {
                kept[q] = sites.get(q).receipts.size();
            }
            boolean changed = true;
            while (changed) {
                changed = false;
                for (int q = 0; q < n; q++) {
                    for (int r = 0; r < kept[q]; r++) {
                        int birth = sites.get(q).receipts.get(r).birth;
                        boolean held = !sites.get(q).down || heldByUp(8 * q + r);
                        boolean written = birth == NONE || birth % 8 < kept[birth / 8];
                        if (!held || !written) {
                            kept[q] = r;
                            changed = true;
                        }
                    }
                }
            }
            return kept;
        }

        int raise() {
            int[] kept = kept();
            int lost = 0;
            orphans = 0;
            TreeSet<Integer> held = new TreeSet<>();
            for (Site s : sites) {
                if (!s.down) {
                    held.addAll(s.knows.keySet());
                }
            }
            for (int q = 0; q < n; q++) {
                Site s = sites.get(q);
                int gone = s.receipts.size() - kept[q];
                lost += gone;
                orphans += gone > 0 && !s.down ? 1 : 0;
                for (int r = s.receipts.size() - 1; r >= kept[q]; r--) {
                    int code = 8 * q + r;
                    s.receipts.remove(r);
                    held.remove(code);
                    for (Site other : sites) {
                        other.knows.remove(code);
                    }
                    letters.removeIf(l -> l.birth == code);
                    for (Letter l : letters) {
                        l.carries.remove(code);
                    }
                }
                s.state = kept[q] == 0 ? s.first : s.receipts.get(kept[q] - 1).behind;
            }
            for (Site s : sites) {
                if (s.down) {
                    for (int code : held) {
                        s.knows.put(code, new TreeSet<>());
                    }
                }
            }
            for (Site s : sites) {
                if (s.down) {
                    for (int code : held) {
                        s.knows.get(code).addAll(holders(code));
                    }
                }
            }
            for (Site s : sites) {
                s.down = false;
            }
            return lost;
        }

        TreeSet<Integer> holders(int code) {
            TreeSet<Integer> some = new TreeSet<>();
            for (int q = 0; q < n; q++) {
                if (sites.get(q).knows.containsKey(code)) {
                    some.add(q);
                }
            }
            return some;
        }

        void past(int code, TreeSet<Integer> into) {
            into.add(code);
            for (int r = code % 8 - 1; r >= 0; r--) {
                past(8 * (code / 8) + r, into);
            }
            int birth = sites.get(code / 8).receipts.get(code % 8).birth;
            if (birth != NONE && !into.contains(birth)) {
                past(birth, into);
            }
        }

        int receipts() {
            int all = 0;
            for (Site s : sites) {
                all += s.receipts.size();
            }
            return all;
        }
    }

    static final class Model {
        All all = new All(3, 2);
        Deque<All> earlier = new ArrayDeque<>();
        Map<Integer, All> images = new HashMap<>();
        List<int[]> seen = new ArrayList<>();

        void remember() {
            earlier.push(all.copy());
            if (earlier.size() > 5) {
                earlier.removeLast();
            }
        }

        boolean site(int q) {
            return 0 <= q && q < all.n;
        }

        boolean way(int x, int y) {
            return 0 <= x && x <= all.n && site(y) && x != y;
        }

        boolean receipt(int q, int r) {
            return site(q) && 0 <= r && r < all.sites.get(q).receipts.size();
        }

        static int bits(Iterable<Integer> some) {
            int bits = 0;
            for (int s : some) {
                bits |= 1 << s;
            }
            return bits;
        }

        static int nth(Iterable<Integer> some, int i) {
            for (int s : some) {
                if (i-- == 0) {
                    return s;
                }
            }
            return NONE;
        }

        int begins(int n, int enough) {
            if (n < 2 || n > 4 || enough < 1 || enough > 4 || enough > n) {
                return BAD;
            }
            remember();
            all = new All(n, enough);
            seen.clear();
            images.clear();
            return n;
        }

        int puts(int site, int v) {
            if (!site(site) || v < 0 || v > 99) {
                return BAD;
            }
            if (all.from(all.n, site).size() == 8) {
                return FULL;
            }
            remember();
            return all.write(all.n, site, v, NONE);
        }

        int receives(int site, int x) {
            if (!way(x, site)) {
                return BAD;
            }
            if (all.sites.get(site).down || all.next(x, site) == null) {
                return STATE;
            }
            if (all.sites.get(site).receipts.size() == 8) {
                return FULL;
            }
            remember();
            return all.receive(site, all.next(x, site));
        }

        int crashes(int site) {
            if (!site(site)) {
                return BAD;
            }
            if (all.sites.get(site).down) {
                return STATE;
            }
            remember();
            all.crash(site);
            return Integer.bitCount(all.down());
        }

        int raises() {
            if (all.down() == 0) {
                return STATE;
            }
            remember();
            return all.raise();
        }

        int undo() {
            if (earlier.isEmpty()) {
                return STATE;
            }
            all = earlier.pop();
            return earlier.size();
        }

        int site(int q, int what) {
            if (!site(q) || what < 0 || what > 4) {
                return BAD;
            }
            Site s = all.sites.get(q);
            if (what == 4) {
                int wrote = 0;
                for (Letter l : all.letters) {
                    wrote += l.x == q ? 1 : 0;
                }
                return wrote;
            }
            return what == 0 ? (s.down ? NONE : s.state)
                    : what == 1 ? s.receipts.size() : what == 2 ? s.knows.size() : s.down ? 1 : 0;
        }

        int receipt(int q, int r, int what) {
            if (!receipt(q, r) || what < 0 || what > 5) {
                return BAD;
            }
            Receipt it = all.sites.get(q).receipts.get(r);
            TreeSet<Integer> past = new TreeSet<>();
            all.past(8 * q + r, past);
            TreeSet<Integer> holders = all.holders(8 * q + r);
            int[] answers = {it.from, it.number, it.behind, bits(holders), holders.size() >= all.enough ? 1 : 0, past.size()};
            return answers[what];
        }

        int letter(int x, int y, int k, int what) {
            if (!way(x, y) || k < 0 || what < 0 || what > 3) {
                return BAD;
            }
            if (k >= all.from(x, y).size()) {
                return NONE;
            }
            Letter l = all.from(x, y).get(k);
            int[] answers = {l.content, l.birth, l.carries.size(), all.received(l) ? 1 : 0};
            return answers[what];
        }

        int carries(int x, int y, int k, int i) {
            if (!way(x, y) || k < 0 || i < 0) {
                return BAD;
            }
            return k >= all.from(x, y).size() ? NONE : nth(all.from(x, y).get(k).carries.keySet(), i);
        }

        int knows(int site, int code) {
            if (!site(site) || code < 0 || code > 31) {
                return BAD;
            }
            return bits(all.sites.get(site).knows.getOrDefault(code, new TreeSet<>()));
        }

        int past(int q, int r, int i) {
            if (!receipt(q, r) || i < 0) {
                return BAD;
            }
            TreeSet<Integer> past = new TreeSet<>();
            all.past(8 * q + r, past);
            return nth(past, i);
        }

        All after(int set) {
            All a = all.copy();
            for (int q = 0; q < a.n; q++) {
                if ((set >> q & 1) != 0 && !a.sites.get(q).down) {
                    a.crash(q);
                }
            }
            return a;
        }

        int risk(int set, int what) {
            if (set < 0 || set > 15 || set >> all.n != 0 || what < 0 || what > 1) {
                return BAD;
            }
            All a = after(set);
            int lost = a.raise();
            return what == 0 ? lost : a.orphans;
        }

        int worst(int k) {
            if (k < 0 || k > 4) {
                return BAD;
            }
            int most = NONE;
            for (int set = 0; set < 1 << all.n; set++) {
                if (Integer.bitCount(set) == k && (set & all.down()) == 0) {
                    most = Math.max(most, risk(set, 0));
                }
            }
            return most;
        }

        int sees(int site, int n) {
            if (!site(site) || n < 0 || n > 8) {
                return BAD;
            }
            if (seen.size() == 6) {
                return FULL;
            }
            seen.add(new int[] {site, n});
            return seen.size();
        }

        int forget() {
            int were = seen.size();
            seen.clear();
            return were;
        }

        int[] left(int set) {
            All a = after(set);
            a.raise();
            int[] left = new int[4];
            for (int q = 0; q < a.n; q++) {
                left[q] = a.sites.get(q).receipts.size();
            }
            return left;
        }

        List<Integer> sets() {
            List<Integer> some = new ArrayList<>();
            for (int set = 1; set < 1 << all.n; set++) {
                boolean so = (set & all.down()) == 0;
                for (int i = 0; so && i < seen.size(); i++) {
                    so = left(set)[seen.get(i)[0]] == seen.get(i)[1];
                }
                if (so) {
                    some.add(set);
                }
            }
            return some;
        }

        int which(int what) {
            if (what < 0 || what > 1) {
                return BAD;
            }
            List<Integer> sets = sets();
            return what == 0 ? sets.size() : sets.isEmpty() ? NONE : sets.get(0);
        }

        int ask() {
            List<Integer> sets = sets();
            if (sets.size() <= 1) {
                return NONE;
            }
            int best = NONE;
            int least = 99;
            for (int q = 0; q < all.n; q++) {
                Map<Integer, Integer> groups = new HashMap<>();
                int most = 0;
                for (int set : sets) {
                    most = Math.max(most, groups.merge(left(set)[q], 1, Integer::sum));
                }
                if (most < least) {
                    least = most;
                    best = q;
                }
            }
            return best;
        }

        int keep(int image) {
            if (image < 0 || image > 1) {
                return BAD;
            }
            images.put(image, all.copy());
            return all.receipts();
        }

        int back(int image) {
            if (image < 0 || image > 1) {
                return BAD;
            }
            if (!images.containsKey(image)) {
                return STATE;
            }
            all = images.get(image).copy();
            earlier.clear();
            return all.receipts();
        }

        int count(int what) {
            int open = 0;
            int carried = 0;
            for (Letter l : all.letters) {
                open += all.received(l) ? 0 : 1;
                carried += l.carries.size();
            }
            int safe = 0;
            for (int q = 0; q < all.n; q++) {
                for (int r = 0; r < all.sites.get(q).receipts.size(); r++) {
                    safe += all.holders(8 * q + r).size() >= all.enough ? 1 : 0;
                }
            }
            int[] answers = {all.n, all.enough, all.receipts(), all.letters.size(), open, all.down(), safe, carried,
                seen.size(), earlier.size()};
            return what < 0 || what > 9 ? BAD : answers[what];
        }
    }

    // ---- the runs

    private static long drawn;
    private static int wrong = 0;

    private static int draw(int below) {
        drawn = drawn * 6364136223846793005L + 1442695040888963407L;
        return (int) Long.remainderUnsigned(drawn >>> 33, below);
    }

    /** Mostly from low to high, at times one beside, seldom far off. */
    private static int about(int low, int high) {
        int how = draw(40);
        if (how == 0) {
            return low - 1;
        }
        if (how == 1) {
            return high + 1;
        }
        if (how == 2 && draw(8) == 0) {
            return draw(2) == 0 ? Integer.MIN_VALUE : Integer.MAX_VALUE;
        }
        return low + draw(high - low + 1);
    }

    private static void same(int run, int call, String what, int got, int want) {
        if (got != want) {
            wrong++;
            if (wrong <= 20) {
                System.out.println("run " + run + ", call " + call + ": " + what + " answered " + got + ", due is " + want);
            }
        }
    }

    private static final String[] NAMES = {"begins", "puts", "receives", "crashes", "raises", "undo", "site", "receipt",
        "letter", "carries", "knows", "past", "risk", "worst", "sees", "forget", "which", "ask", "keep", "back", "count"};

    /** Letters from sites are drawn as often as those from outside, though there are fewer. */
    private static Letter someLetter(Model m, boolean open) {
        boolean outside = draw(2) == 0;
        List<Letter> some = new ArrayList<>();
        for (Letter l : m.all.letters) {
            if ((l.x == m.all.n) == outside && !(open && m.all.received(l))) {
                some.add(l);
            }
        }
        return some.isEmpty() ? null : some.get(draw(some.size()));
    }

    private static int[] arguments(int op, Model m) {
        int n = m.all.n;
        if ((op == 2 || op == 8 || op == 9) && draw(3) > 0) {
            Letter l = someLetter(m, op == 2);
            if (l != null) {
                return op == 2 ? new int[] {l.y, l.x} : new int[] {l.x, l.y, l.number, about(0, op == 8 ? 3 : 4)};
            }
        }
        int q = about(0, n - 1);
        int r = op == 7 || op == 11 ? about(0, m.site(q) ? Math.max(0, m.all.sites.get(q).receipts.size() - 1) : 7) : 0;
        int[][] by = {
            {about(2, 4), about(1, 4)}, {q, about(0, 99)}, {q, about(0, n)}, {q}, {}, {},
            {q, about(0, 4)}, {q, r, about(0, 5)}, {about(0, n), q, about(0, 4), about(0, 3)},
            {about(0, n), q, about(0, 4), about(0, 6)}, {q, about(0, 8 * n - 1)}, {q, r, about(0, 16)},
            {about(0, (1 << n) - 1), about(0, 1)}, {about(0, 4)},
            {q, m.site(q) && draw(3) > 0 ? m.all.sites.get(q).receipts.size() : about(0, 8)}, {}, {about(0, 1)}, {},
            {about(0, 1)}, {about(0, 1)}, {about(0, 9)}};
        return by[op];
    }

    private static int onModel(Model m, int op, int[] a) {
        return switch (op) {
            case 0 -> m.begins(a[0], a[1]);
            case 1 -> m.puts(a[0], a[1]);
            case 2 -> m.receives(a[0], a[1]);
            case 3 -> m.crashes(a[0]);
            case 4 -> m.raises();
            case 5 -> m.undo();
            case 6 -> m.site(a[0], a[1]);
            case 7 -> m.receipt(a[0], a[1], a[2]);
            case 8 -> m.letter(a[0], a[1], a[2], a[3]);
            case 9 -> m.carries(a[0], a[1], a[2], a[3]);
            case 10 -> m.knows(a[0], a[1]);
            case 11 -> m.past(a[0], a[1], a[2]);
            case 12 -> m.risk(a[0], a[1]);
            case 13 -> m.worst(a[0]);
            case 14 -> m.sees(a[0], a[1]);
            case 15 -> m.forget();
            case 16 -> m.which(a[0]);
            case 17 -> m.ask();
            case 18 -> m.keep(a[0]);
            case 19 -> m.back(a[0]);
            default -> m.count(a[0]);
        };
    }

    private static int onClass(CarriedOrders c, int op, int[] a) {
        return switch (op) {
            case 0 -> c.begins(a[0], a[1]);
            case 1 -> c.puts(a[0], a[1]);
            case 2 -> c.receives(a[0], a[1]);
            case 3 -> c.crashes(a[0]);
            case 4 -> c.raises();
            case 5 -> c.undo();
            case 6 -> c.site(a[0], a[1]);
            case 7 -> c.receipt(a[0], a[1], a[2]);
            case 8 -> c.letter(a[0], a[1], a[2], a[3]);
            case 9 -> c.carries(a[0], a[1], a[2], a[3]);
            case 10 -> c.knows(a[0], a[1]);
            case 11 -> c.past(a[0], a[1], a[2]);
            case 12 -> c.risk(a[0], a[1]);
            case 13 -> c.worst(a[0]);
            case 14 -> c.sees(a[0], a[1]);
            case 15 -> c.forget();
            case 16 -> c.which(a[0]);
            case 17 -> c.ask();
            case 18 -> c.keep(a[0]);
            case 19 -> c.back(a[0]);
            default -> c.count(a[0]);
        };
    }

    /** How often each call is drawn; runs differ in how soon things are crashed, undone, begun anew. */
    private static int drawOp(int run) {
        int[] often = {run % 7 == 0 ? 4 : 1, 60, 140, 1 + run % 13, 3 + run % 5, run % 6 == 0 ? 25 : 5, 15, 20, 20, 20, 25,
            15, 15, 6, 5, 3, 6, 6, 2, 2, 20};
        int sum = 0;
        for (int o : often) {
            sum += o;
        }
        int at = draw(sum);
        int op = 0;
        while (at >= often[op]) {
            at -= often[op];
            op++;
        }
        return op;
    }

    public static void main(String[] args) {
        long[][] answers = new long[NAMES.length][5];
        for (int run = 0; run < RUNS; run++) {
            drawn = run * 7919L + 17;
            draw(2);
            Model m = new Model();
            CarriedOrders c = new CarriedOrders();
            for (int call = 0; call < CALLS; call++) {
                int op = call == 0 && run % 4 != 0 ? 0 : drawOp(run);
                int[] a = arguments(op, m);
                int want = onModel(m, op, a);
                answers[op][want >= 0 ? 0 : want == BAD ? 1 : want == STATE ? 2 : want == FULL ? 3 : 4]++;
                same(run, call, NAMES[op] + java.util.Arrays.toString(a), onClass(c, op, a), want);
            }
        }
        if (args.length > 0) {
            for (int op = 0; op < NAMES.length; op++) {
                System.out.println(NAMES[op] + " answered, BAD, STATE, FULL, NONE: " + java.util.Arrays.toString(answers[op]));
            }
        }
        System.out.println(wrong == 0 ? "all answers are the model's" : wrong + " answers are not the model's");
        if (wrong != 0) {
            System.exit(1);
        }
    }
}

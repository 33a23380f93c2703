/**
 * Every parameter of every call: one too small, the smallest, the largest, one too large, and far off. Each wrong
 * number is BAD, and leaves everything as it was.
 */
public final class BoundsTests {
    private static final int BAD = Cases.BAD, STATE = Cases.STATE, NONE = Cases.NONE;
    private static final int LOW = Cases.LOW, HIGH = Cases.HIGH;

    private static void bounds(String name, Cases.Call[] scene, Cases.CallWith call, int low, int atLow, int high, int atHigh) {
        Cases.due(name + ", the smallest", scene, c -> call.on(c, low), atLow);
        Cases.due(name + ", the largest", scene, c -> call.on(c, high), atHigh);
        Cases.leaves(name + ", one too small", scene, c -> call.on(c, low - 1), BAD);
        Cases.leaves(name + ", one too large", scene, c -> call.on(c, high + 1), BAD);
        Cases.leaves(name + ", far too small", scene, c -> call.on(c, LOW), BAD);
        Cases.leaves(name + ", far too large", scene, c -> call.on(c, HIGH), BAD);
    }

    /** A number that has no largest one: behind the last one that there is, all answer NONE. */
    private static void open(String name, Cases.Call[] scene, Cases.CallWith call, int atFirst, int last, int atLast) {
        Cases.due(name + ", the smallest", scene, c -> call.on(c, 0), atFirst);
        Cases.due(name + ", the last", scene, c -> call.on(c, last), atLast);
        Cases.leaves(name + ", one too small", scene, c -> call.on(c, -1), BAD);
        Cases.leaves(name + ", far too small", scene, c -> call.on(c, LOW), BAD);
        Cases.leaves(name + ", one more than there are", scene, c -> call.on(c, last + 1), NONE);
        Cases.leaves(name + ", eight", scene, c -> call.on(c, 8), NONE);
        Cases.leaves(name + ", 32", scene, c -> call.on(c, 32), NONE);
        Cases.leaves(name + ", far too many", scene, c -> call.on(c, HIGH), NONE);
    }

    private static void whatIsDone() {
        bounds("2 begins: n", Scenes.PAIR, (c, v) -> c.begins(v, 1), 2, 2, 4, 4);
        for (int n = 2; n <= 4; n++) {
            int sites = n;
            Cases.Call[] scene = Scenes.BY_SITES[n - 2];
            bounds("2 begins: enough, of " + n + " sites", scene, (c, v) -> c.begins(sites, v), 1, n, n, n);
        }
        for (int n = 2; n <= 4; n++) {
            int outside = n;
            String of = ", of " + n + " sites";
            Cases.Call[] scene = Cases.then(Scenes.begun(n, 2), c -> c.puts(0, 1), c -> c.puts(outside - 1, 1));
            bounds("3 puts: site" + of, scene, (c, v) -> c.puts(v, 5), 0, 1, n - 1, 1);
            bounds("3 puts: v" + of, scene, (c, v) -> c.puts(0, v), 0, 1, 99, 1);
            // From outside, with content 1: 31 times the site's number and 1, and 1, n, 1.
            bounds("4 receives: site" + of, scene, (c, v) -> c.receives(v, outside), 0, 33 + n, n - 1, 31 * n + n + 2);
            bounds("5 crashes: site" + of, scene, (c, v) -> c.crashes(v), 0, 1, n - 1, 1);
        }
        // From 0 to 1 there is a letter in PAIR and CHAIN, which 1 has received.
        bounds("4 receives: x, of 2 sites", Scenes.PAIR, (c, v) -> c.receives(1, v), 0, STATE, 2, STATE);
        bounds("4 receives: x, of 3 sites", Scenes.CHAIN, (c, v) -> c.receives(1, v), 0, STATE, 3, STATE);
        // From 0 to 2 there is a second letter in RICH: 31 * 140 + 18 + 0 + 1 - 3988 = 371.
        bounds("4 receives: x, of 4 sites", Scenes.RICH, (c, v) -> c.receives(2, v), 0, 371, 4, STATE);
        for (int q = 0; q < 4; q++) {
            int site = q;
            Cases.leaves("4 receives: x is the site " + q, Scenes.RICH, c -> c.receives(site, site), BAD);
        }
    }

    private static void asItIs() {
        int[] stateOfFirst = {188, 220, 503};
        int[] stateOfLast = {98, 178, NONE};
        for (int n = 2; n <= 4; n++) {
            Cases.Call[] scene = Scenes.BY_SITES[n - 2];
            int outside = n;
            String of = ", of " + n + " sites";
            bounds("8 site: q" + of, scene, (c, v) -> c.site(v, 0), 0, stateOfFirst[n - 2], n - 1, stateOfLast[n - 2]);
            // Of OUTSIDE to 0 there is a letter; of it to the last site, and of 0 to itself, there is none.
            bounds("10 letter: y" + of, scene, (c, v) -> c.letter(outside, v, 0, 3), 0, 1, n - 1, NONE);
            bounds("11 carries: y" + of, scene, (c, v) -> c.carries(outside, v, 0, 0), 0, NONE, n - 1, NONE);
            for (int q = 0; q < n; q++) {
                int site = q;
                Cases.leaves("10 letter: x is y, " + q + of, scene, c -> c.letter(site, site, 0, 0), BAD);
                Cases.leaves("11 carries: x is y, " + q + of, scene, c -> c.carries(site, site, 0, 0), BAD);
            }
            Cases.leaves("10 letter: x and y are OUTSIDE" + of, scene, c -> c.letter(outside, outside, 0, 0), BAD);
            Cases.leaves("11 carries: x and y are OUTSIDE" + of, scene, c -> c.carries(outside, outside, 0, 0), BAD);
        }
        bounds("8 site: what", Scenes.PAIR, (c, v) -> c.site(0, v), 0, 188, 4, 1);
        bounds("8 site: what, of one that is DOWN", Scenes.RICH, (c, v) -> c.site(3, v), 0, NONE, 4, 0);
        bounds("9 receipt: q, of 2 sites", Scenes.PAIR, (c, v) -> c.receipt(v, 0, 2), 0, 35, 1, 98);
        bounds("9 receipt: q, of 3 sites", Scenes.CHAIN, (c, v) -> c.receipt(v, 0, 2), 0, 39, 2, 178);
        bounds("9 receipt: r, one", Scenes.PAIR, (c, v) -> c.receipt(1, v, 2), 0, 98, 0, 98);
        bounds("9 receipt: r, two", Scenes.PAIR, (c, v) -> c.receipt(0, v, 2), 0, 35, 1, 188);
        bounds("9 receipt: r, eight", Scenes.RICH, (c, v) -> c.receipt(0, v, 2), 0, 46, 7, 503);
        bounds("9 receipt: r, eight, of one that is DOWN", Scenes.RICH_DOWN, (c, v) -> c.receipt(0, v, 2), 0, 46, 7, 503);
        bounds("9 receipt: what", Scenes.PAIR, (c, v) -> c.receipt(0, 1, v), 0, 1, 5, 3);
        bounds("10 letter: x, of 2 sites", Scenes.PAIR, (c, v) -> c.letter(v, 1, 0, 0), 0, 35, 2, NONE);
        bounds("10 letter: x, of 3 sites", Scenes.CHAIN, (c, v) -> c.letter(v, 1, 0, 0), 0, 20, 3, NONE);
        bounds("10 letter: x, of 4 sites", Scenes.RICH, (c, v) -> c.letter(v, 2, 0, 0), 0, 46, 4, NONE);
        bounds("10 letter: what", Scenes.CHAIN, (c, v) -> c.letter(1, 2, 0, v), 0, 83, 3, 1);
        open("10 letter: k, one", Scenes.PAIR, (c, v) -> c.letter(0, 1, v, 0), 35, 0, 35);
        open("10 letter: k, eight", Scenes.EIGHT, (c, v) -> c.letter(0, 1, v, 0), 35, 7, 75);
        bounds("11 carries: x, of 2 sites", Scenes.PAIR, (c, v) -> c.carries(v, 1, 0, 0), 0, 0, 2, NONE);
        bounds("11 carries: x, of 3 sites", Scenes.CHAIN, (c, v) -> c.carries(v, 1, 0, 1), 0, 1, 3, NONE);
        bounds("11 carries: x, of 4 sites", Scenes.RICH, (c, v) -> c.carries(v, 2, 0, 0), 0, 0, 4, NONE);
        open("11 carries: k, one", Scenes.PAIR, (c, v) -> c.carries(0, 1, v, 0), 0, 0, 0);
        open("11 carries: k, eight", Scenes.EIGHT, (c, v) -> c.carries(0, 1, v, v), 0, 7, 7);
        open("11 carries: i, one", Scenes.PAIR, (c, v) -> c.carries(1, 0, 0, v), 8, 0, 8);
        open("11 carries: i, eight", Scenes.EIGHT, (c, v) -> c.carries(0, 1, 7, v), 0, 7, 7);
        Cases.leaves("11 carries: i, none", Scenes.PAIR, c -> c.carries(2, 0, 0, 0), NONE);
        bounds("12 knows: site, of 2 sites", Scenes.PAIR, (c, v) -> c.knows(v, 8), 0, 3, 1, 2);
        bounds("12 knows: site, of 3 sites", Scenes.CHAIN, (c, v) -> c.knows(v, 0), 0, 1, 2, 7);
        bounds("12 knows: site, of 4 sites", Scenes.RICH, (c, v) -> c.knows(v, 0), 0, 1, 3, 0);
        bounds("12 knows: code, of 2 sites", Scenes.PAIR, (c, v) -> c.knows(0, v), 0, 1, 31, 0);
        bounds("12 knows: code, of 4 sites", Scenes.RICH, (c, v) -> c.knows(2, v), 0, 5, 31, 0);
        bounds("13 past: q, of 2 sites", Scenes.PAIR, (c, v) -> c.past(v, 0, 0), 0, 0, 1, 0);
        bounds("13 past: q, of 3 sites", Scenes.CHAIN, (c, v) -> c.past(v, 0, 0), 0, 0, 2, 0);
        bounds("13 past: r, two", Scenes.PAIR, (c, v) -> c.past(0, v, v), 0, 0, 1, 1);
        bounds("13 past: r, eight", Scenes.RICH, (c, v) -> c.past(0, v, v), 0, 0, 7, 7);
        open("13 past: i, one", Scenes.PAIR, (c, v) -> c.past(0, 0, v), 0, 0, 0);
        open("13 past: i, four", Scenes.CHAIN, (c, v) -> c.past(2, 0, v), 0, 3, 16);
        Cases.due("13 past: i, the last of sixteen", Scenes.EIGHT, c -> c.past(1, 7, 15), 15);
        Cases.leaves("13 past: i, one more than sixteen", Scenes.EIGHT, c -> c.past(1, 7, 16), NONE);
    }

    private static void whatWouldBeLost() {
        bounds("14 risk: set, of 2 sites", Scenes.PAIR, (c, v) -> c.risk(v, 0), 0, 0, 3, 3);
        bounds("14 risk: set, of 3 sites", Scenes.CHAIN, (c, v) -> c.risk(v, 0), 0, 0, 7, 4);
        bounds("14 risk: set, of 4 sites", Scenes.RICH, (c, v) -> c.risk(v, 0), 0, 0, 15, 10);
        for (int set = 4; set < 16; set++) {
            int s = set;
            Cases.leaves("14 risk: set " + set + " has more than the sites, of 2", Scenes.PAIR, c -> c.risk(s, 0), BAD);
            Cases.due("14 risk: set " + set + ", ORPHANS, has more than the sites, of 3",
                    Scenes.CHAIN, c -> c.risk(s, 1), s < 8 ? 0 : BAD);
        }
        bounds("14 risk: what", Scenes.LOOSE, (c, v) -> c.risk(1, v), 0, 2, 1, 1);
        bounds("15 worst: k, of 2 sites", Scenes.PAIR, (c, v) -> c.worst(v), 0, 0, 4, NONE);
        bounds("15 worst: k, of 3 sites", Scenes.CHAIN, (c, v) -> c.worst(v), 0, 0, 4, NONE);
        bounds("15 worst: k, of 4 sites", Scenes.begun(4, 4), (c, v) -> c.worst(v), 0, 0, 4, 0);
    }

    private static void whichSites() {
        for (int n = 2; n <= 4; n++) {
            Cases.Call[] scene = Cases.then(Scenes.begun(n, 2), c -> c.sees(1, 0), c -> c.keep(1));
            String of = ", of " + n + " sites";
            bounds("16 sees: site" + of, scene, (c, v) -> c.sees(v, 0), 0, 2, n - 1, 2);
            bounds("16 sees: n" + of, scene, (c, v) -> c.sees(1, v), 0, 2, 8, 2);
        }
        bounds("18 which: what", Scenes.RICH, (c, v) -> c.which(v), 0, 3, 1, 1);
        bounds("18 which: what, where there is none", Scenes.allDown(2), (c, v) -> c.which(v), 0, 0, 1, NONE);
    }

    private static void images() {
        bounds("20 keep: image", Scenes.RICH, (c, v) -> c.keep(v), 0, 10, 1, 10);
        bounds("20 keep: image, none was kept", Scenes.PAIR, (c, v) -> c.keep(v), 0, 3, 1, 3);
        bounds("21 back: image", Scenes.RICH, (c, v) -> c.back(v), 0, 9, 1, 10);
        bounds("21 back: image, none was kept", Scenes.PAIR, (c, v) -> c.back(v), 0, STATE, 1, STATE);
        bounds("22 count: what", Scenes.RICH, (c, v) -> c.count(v), 0, 4, 9, 5);
        bounds("22 count: what, at first", Scenes.FIRST, (c, v) -> c.count(v), 0, 3, 9, 0);
    }

    public static void main(String[] args) {
        Scenes.check();
        whatIsDone();
        asItIs();
        whatWouldBeLost();
        whichSites();
        images();
        Cases.end("bounds");
    }
}

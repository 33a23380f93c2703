/** Nothing there yet: no receipts, no letters, nothing held, seen, kept, down or to be undone. */
public final class EmptyTests {
    private static final int BAD = Cases.BAD, STATE = Cases.STATE, NONE = Cases.NONE;

    private static void aNewObject() {
        int[] counts = {3, 2, 0, 0, 0, 0, 0, 0, 0, 0};
        for (int what = 0; what < counts.length; what++) {
            int w = what;
            Cases.leaves("1 new: count(" + w + ")", Scenes.FIRST, c -> c.count(w), counts[w]);
        }
        Cases.same("1 new: all is as behind begins(3, 2)", Scenes.FIRST, Scenes.begun(3, 2));
        Cases.leaves("1 new: OUTSIDE is 3, a letter of it", Scenes.FIRST, c -> c.letter(3, 0, 0, 0), NONE);
        Cases.leaves("1 new: there is no site 3", Scenes.FIRST, c -> c.site(3, 0), BAD);
        Cases.leaves("1 new: there is no 4", Scenes.FIRST, c -> c.letter(4, 0, 0, 0), BAD);
        Cases.due("1 new: begins(2, 2) can be undone", Cases.then(Scenes.begun(2, 2)), c -> c.undo(), 0);
        Cases.same("1 new: is there again then", Cases.then(Scenes.begun(2, 2), c -> c.undo()), Scenes.FIRST);
    }

    private static void nothingIsThere(String of, Cases.Call[] scene, int n) {
        int full = (1 << n) - 1;
        for (int q = 0; q < n; q++) {
            int s = q;
            String to = ", " + q + of;
            for (int x = 0; x <= n; x++) {
                int from = x;
                if (x != q) {
                    Cases.leaves("4 receives: no letter from " + x + " to" + to, scene, c -> c.receives(s, from), STATE);
                    Cases.leaves("10 letter: none from " + x + " to" + to, scene, c -> c.letter(from, s, 0, 0), NONE);
                    Cases.leaves("11 carries: none from " + x + " to" + to, scene, c -> c.carries(from, s, 0, 0), NONE);
                }
            }
            for (int what = 0; what < 6; what++) {
                int w = what;
                Cases.leaves("9 receipt: none" + to + ", what " + w, scene, c -> c.receipt(s, 0, w), BAD);
            }
            Cases.leaves("8 site: its number and 1" + to, scene, c -> c.site(s, 0), q + 1);
            Cases.leaves("8 site: no receipts" + to, scene, c -> c.site(s, 1), 0);
            Cases.leaves("8 site: holds nothing" + to, scene, c -> c.site(s, 2), 0);
            Cases.leaves("8 site: not DOWN" + to, scene, c -> c.site(s, 3), 0);
            Cases.leaves("8 site: wrote nothing" + to, scene, c -> c.site(s, 4), 0);
            Cases.leaves("12 knows: its own code is not held" + to, scene, c -> c.knows(s, 8 * s), 0);
            Cases.leaves("13 past: no receipt" + to, scene, c -> c.past(s, 0, 0), BAD);
            Cases.due("3 puts: the first is 0" + to, scene, c -> c.puts(s, 7), 0);
            Cases.due("5 crashes: the first" + to, scene, c -> c.crashes(s), 1);
            Cases.due("16 sees: the first" + to, scene, c -> c.sees(s, 0), 1);
        }
        Cases.leaves("6 raises: none is DOWN" + of, scene, c -> c.raises(), STATE);
        for (int set = 0; set <= full; set++) {
            int s = set;
            Cases.leaves("14 risk: nothing to be lost by " + set + of, scene, c -> c.risk(s, 0), 0);
            Cases.leaves("14 risk: no orphans by " + set + of, scene, c -> c.risk(s, 1), 0);
        }
        for (int k = 0; k <= 4; k++) {
            int many = k;
            Cases.leaves("15 worst: of " + k + of, scene, c -> c.worst(many), k <= n ? 0 : NONE);
        }
        Cases.leaves("17 forget: nothing was seen" + of, scene, c -> c.forget(), 0);
        Cases.leaves("18 which: nothing seen, all sets but the empty one" + of, scene, c -> c.which(0), full);
        Cases.leaves("18 which: nothing seen, the least" + of, scene, c -> c.which(1), 1);
        Cases.leaves("19 ask: nothing seen, all alike" + of, scene, c -> c.ask(), 0);
        Cases.due("20 keep: no receipts" + of, scene, c -> c.keep(0), 0);
        Cases.due("21 back: no receipts" + of, Cases.then(scene, c -> c.keep(1)), c -> c.back(1), 0);
        Cases.leaves("21 back: image 0 was not kept" + of, scene, c -> c.back(0), STATE);
        Cases.leaves("21 back: image 1 was not kept" + of, scene, c -> c.back(1), STATE);
        Cases.leaves("21 back: only image 1 was kept" + of, Cases.then(scene, c -> c.keep(1)), c -> c.back(0), STATE);
        Cases.leaves("21 back: only image 0 was kept" + of, Cases.then(scene, c -> c.keep(0)), c -> c.back(1), STATE);
        for (int what = 2; what <= 8; what++) {
            int w = what;
            Cases.leaves("22 count: nothing of " + what + of, scene, c -> c.count(w), 0);
        }
    }

    private static void nothingToUndo() {
        Cases.leaves("7 undo: nothing was done", Scenes.FIRST, c -> c.undo(), STATE);
        Cases.leaves("7 undo: the one call is undone",
                Cases.scene(c -> c.puts(0, 1), c -> c.undo()), c -> c.undo(), STATE);
        Cases.leaves("7 undo: refused calls are none",
                Cases.scene(c -> c.begins(1, 1), c -> c.puts(3, 0), c -> c.receives(0, 3), c -> c.crashes(3), c -> c.raises()),
                c -> c.undo(), STATE);
        Cases.leaves("7 undo: what was seen, forgotten and kept are none",
                Cases.scene(c -> c.sees(0, 1), c -> c.forget(), c -> c.keep(0), c -> c.sees(1, 0)), c -> c.undo(), STATE);
        Cases.leaves("7 undo: what was asked is none",
                Cases.scene(c -> c.risk(7, 0), c -> c.worst(1), c -> c.which(0), c -> c.ask(), c -> c.count(9)),
                c -> c.undo(), STATE);
        Cases.leaves("7 undo: behind back() there is none",
                Cases.scene(c -> c.puts(0, 1), c -> c.keep(0), c -> c.puts(0, 2), c -> c.back(0)), c -> c.undo(), STATE);
    }

    /** All sites are down: none is left that could receive, crash, or be asked of. */
    private static void noneIsUp(int n) {
        Cases.Call[] down = Scenes.allDown(n);
        int outside = n;
        String of = ", of " + n + " sites, all DOWN";
        for (int q = 0; q < n; q++) {
            int s = q;
            Cases.leaves("4 receives: " + q + of, Cases.then(down, c -> c.puts(s, 1)), c -> c.receives(s, outside), STATE);
            Cases.leaves("5 crashes: " + q + of, down, c -> c.crashes(s), STATE);
            Cases.leaves("8 site: no STATE, " + q + of, down, c -> c.site(s, 0), NONE);
            Cases.leaves("8 site: DOWN, " + q + of, down, c -> c.site(s, 3), 1);
            Cases.due("3 puts: to " + q + of, down, c -> c.puts(s, 1), 0);
            Cases.due("16 sees: " + q + of, down, c -> c.sees(s, 0), 1);
        }
        Cases.leaves("15 worst: of none" + of, down, c -> c.worst(0), 0);
        Cases.leaves("15 worst: of one" + of, down, c -> c.worst(1), NONE);
        Cases.leaves("18 which: how many" + of, down, c -> c.which(0), 0);
        Cases.leaves("18 which: the least" + of, down, c -> c.which(1), NONE);
        Cases.leaves("19 ask" + of, down, c -> c.ask(), NONE);
        Cases.leaves("22 count: DOWN" + of, down, c -> c.count(5), (1 << n) - 1);
        Cases.due("6 raises: nothing is lost" + of, down, c -> c.raises(), 0);
        Cases.same("6 raises: as at first" + of, Cases.then(down, c -> c.raises()), Scenes.begun(n, n));
        Cases.due("20 keep" + of, down, c -> c.keep(0), 0);
        Cases.same("21 back" + of, Cases.then(down, c -> c.keep(0), c -> c.raises(), c -> c.back(0)), down);
        // The one that crashed last is up again.
        Cases.Call[] one = Cases.then(down, c -> c.undo());
        Cases.leaves("18 which: one is undone" + of, one, c -> c.which(0), 1);
        Cases.leaves("18 which: one is undone, it is the least" + of, one, c -> c.which(1), 1 << n - 1);
        Cases.leaves("19 ask: one is undone, one set can be" + of, one, c -> c.ask(), NONE);
        Cases.leaves("15 worst: one is undone, of one" + of, one, c -> c.worst(1), 0);
        Cases.leaves("15 worst: one is undone, of two" + of, one, c -> c.worst(2), NONE);
    }

    public static void main(String[] args) {
        aNewObject();
        nothingIsThere(", at first", Scenes.FIRST, 3);
        for (int n = 2; n <= 4; n++) {
            // Begun behind all that a scene has: nothing of it is left.
            nothingIsThere(", begun of " + n + " sites", Cases.then(Scenes.RICH, Scenes.begun(n, 1)), n);
            noneIsUp(n);
        }
        nothingToUndo();
        Cases.end("empty");
    }
}

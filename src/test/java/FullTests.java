/** Full: 8 letters, 8 receipts, 6 seen, 5 calls that can be undone, both images, all codes, 512 calls. */
public final class FullTests {
    private static final int BAD = Cases.BAD, STATE = Cases.STATE, FULL = Cases.FULL, NONE = Cases.NONE;

    private static Cases.Call[] put(Cases.Call[] scene, int times, int site) {
        return Cases.then(scene, Cases.times(times, c -> c.puts(site, 5)));
    }

    private static void lettersFromOutside() {
        for (int n = 2; n <= 4; n++) {
            for (int q = 0; q < n; q++) {
                int site = q;
                int other = (q + 1) % n;
                String of = ", to " + q + " of " + n + " sites";
                Cases.Call[] seven = put(Scenes.begun(n, 1), 7, q);
                Cases.Call[] eight = put(Scenes.begun(n, 1), 8, q);
                Cases.due("3 puts: the eighth" + of, seven, c -> c.puts(site, 99), 7);
                Cases.leaves("3 puts: a ninth" + of, eight, c -> c.puts(site, 99), FULL);
                Cases.due("3 puts: another site has room" + of, eight, c -> c.puts(other, 99), 0);
                Cases.due("3 puts: one is undone, the eighth again" + of,
                        Cases.then(eight, c -> c.undo()), c -> c.puts(site, 99), 7);
                Cases.due("3 puts: begun anew, the first" + of, Cases.then(eight, Scenes.begun(n, 1)), c -> c.puts(site, 0), 0);
            }
        }
        Cases.leaves("3 puts: a ninth, to one that is DOWN",
                Cases.then(put(Scenes.FIRST, 8, 1), c -> c.crashes(1)), c -> c.puts(1, 0), FULL);
        Cases.leaves("3 puts: a ninth, 8 are received", Scenes.EIGHT, c -> c.puts(0, 0), FULL);
        Cases.leaves("3 puts: a ninth, all receipts are lost",
                Cases.then(Scenes.EIGHT, c -> c.crashes(0), c -> c.crashes(1), c -> c.raises()), c -> c.puts(0, 0), FULL);
        Cases.due("3 puts: the image had room",
                Cases.then(put(Cases.then(put(Scenes.FIRST, 7, 2), c -> c.keep(0)), 1, 2), c -> c.back(0)), c -> c.puts(2, 0), 7);
    }

    private static void lettersOfSites() {
        Cases.due("4 receives: 8 letters from 0 to 1", Scenes.EIGHT, c -> c.site(0, 4), 8);
        Cases.due("10 letter: the eighth, CONTENT", Scenes.EIGHT, c -> c.letter(0, 1, 7, 0), 75);
        Cases.due("10 letter: the eighth, BIRTH", Scenes.EIGHT, c -> c.letter(0, 1, 7, 1), 7);
        Cases.due("10 letter: the eighth, CARRIES", Scenes.EIGHT, c -> c.letter(0, 1, 7, 2), 8);
        Cases.due("10 letter: the eighth, received", Scenes.EIGHT, c -> c.letter(0, 1, 7, 3), 1);
        Cases.due("10 letter: the eighth, not yet", Cases.then(Scenes.EIGHT, c -> c.undo()), c -> c.letter(0, 1, 7, 3), 0);
        for (int what = 0; what < 4; what++) {
            int w = what;
            Cases.due("10 letter: a ninth, what " + w, Scenes.EIGHT, c -> c.letter(0, 1, 8, w), NONE);
        }
        Cases.due("11 carries: a ninth letter", Scenes.EIGHT, c -> c.carries(0, 1, 8, 0), NONE);
        Cases.leaves("4 receives: no ninth letter, ahead of FULL", Scenes.EIGHT, c -> c.receives(1, 0), STATE);
    }

    private static void receipts() {
        // Seven of EIGHT's receipts, then 1's letter: 31 * 443 + 98 + 1 + 1 - 13 * 997 = 872.
        Cases.Call[] seven = Cases.then(java.util.Arrays.copyOf(Scenes.EIGHT, 15), c -> c.receives(1, 0), c -> c.puts(0, 0));
        Cases.Call[] eight = Cases.then(seven, c -> c.receives(0, 1));
        Cases.due("4 receives: 7 receipts", seven, c -> c.site(0, 1), 7);
        Cases.due("4 receives: the eighth, from a site", seven, c -> c.receives(0, 1), 872);
        Cases.leaves("4 receives: a ninth, from OUTSIDE", eight, c -> c.receives(0, 2), FULL);
        Cases.leaves("4 receives: a ninth, from a site", Scenes.EIGHT, c -> c.receives(0, 1), FULL);
        Cases.leaves("4 receives: a ninth, of four sites", Scenes.RICH, c -> c.receives(0, 1), FULL);
        Cases.due("4 receives: one is undone, the eighth again", Cases.then(eight, c -> c.undo()), c -> c.receives(0, 2), 775);
        Cases.due("4 receives: others have room", eight, c -> c.receives(1, 0), 139);
        Cases.leaves("4 receives: 8 are kept by a raise, a ninth",
                Cases.then(Scenes.EIGHT, c -> c.crashes(0), c -> c.raises()), c -> c.receives(0, 1), FULL);
        Cases.Call[] lost = Cases.then(Scenes.EIGHT, c -> c.crashes(1), c -> c.raises());
        Cases.due("4 receives: 8 are lost, the first anew", lost, c -> c.receives(1, 0), 98);
        Cases.same("4 receives: 8 are lost, and all received anew",
                Cases.then(lost, Cases.times(8, c -> c.receives(1, 0))), Scenes.EIGHT);
        Cases.due("8 site: 8 receipts", Scenes.EIGHT, c -> c.site(1, 1), 8);
        Cases.due("9 receipt: the eighth", Scenes.EIGHT, c -> c.receipt(1, 7, 2), 657);
        Cases.due("9 receipt: of the first letter", Scenes.EIGHT, c -> c.receipt(1, 0, 1), 0);
        Cases.due("9 receipt: of the eighth letter", Scenes.EIGHT, c -> c.receipt(1, 7, 1), 7);
        Cases.due("9 receipt: a ninth", Scenes.EIGHT, c -> c.receipt(1, 8, 2), BAD);
        // 8 * 0 and 8 would be the code of site 1's first one.
        Cases.due("13 past: of a ninth", Scenes.EIGHT, c -> c.past(0, 8, 0), BAD);
        Cases.due("22 count: all receipts", Scenes.EIGHT, c -> c.count(2), 16);
        Cases.due("22 count: letters", Scenes.EIGHT, c -> c.count(3), 18);
        Cases.due("22 count: letters without a receipt", Scenes.EIGHT, c -> c.count(4), 2);
        // 1 and 2 and .. and 8 from 0; 1 and 4 from 1.
        Cases.due("22 count: codes that are carried", Scenes.EIGHT, c -> c.count(7), 41);
    }

    /** 8 receipts of each of four sites, all from outside; site 3, raised ahead of its own ones, holds all codes. */
    private static Cases.Call[] whole() {
        Cases.Call[] scene = Scenes.begun(4, 2);
        for (int q = 0; q < 4; q++) {
            int site = q;
            if (q == 3) {
                scene = Cases.then(scene, c -> c.crashes(3), c -> c.raises());
            }
            scene = put(scene, 8, q);
            scene = Cases.then(scene, Cases.times(8, c -> c.receives(site, 4)));
        }
        return scene;
    }

    private static void allCodes() {
        Cases.Call[] whole = whole();
        Cases.due("22 count: 32 receipts", whole, c -> c.count(2), 32);
        Cases.due("8 site: holds 32 codes", whole, c -> c.site(3, 2), 32);
        Cases.due("12 knows: code 0", whole, c -> c.knows(3, 0), 9);
        Cases.due("12 knows: code 23", whole, c -> c.knows(3, 23), 12);
        Cases.due("12 knows: code 31", whole, c -> c.knows(3, 31), 8);
        Cases.due("12 knows: code 31, of one that does not hold it", whole, c -> c.knows(2, 31), 0);
        Cases.due("9 receipt: code 31 is held", whole, c -> c.receipt(3, 7, 3), 8);
        Cases.due("13 past: code 31", whole, c -> c.past(3, 7, 7), 31);
        Cases.due("13 past: no more", whole, c -> c.past(3, 7, 8), NONE);
        Cases.due("22 count: 24 are SAFE", whole, c -> c.count(6), 24);
        Cases.due("14 risk: all but 3 crash, 3 holds all", whole, c -> c.risk(7, 0), 0);
        Cases.due("14 risk: 3 crashes", whole, c -> c.risk(8, 0), 8);
        Cases.due("14 risk: all crash", whole, c -> c.risk(15, 0), 32);
        for (int k = 0; k <= 4; k++) {
            int many = k;
            Cases.due("15 worst: with 3, of " + k, whole, c -> c.worst(many), 8 * k);
        }
        Cases.due("16 sees: 8", Cases.then(whole, c -> c.sees(3, 8)), c -> c.which(0), 7);
        Cases.due("20 keep: 32", whole, c -> c.keep(1), 32);
        Cases.same("21 back: 32", Cases.then(whole, c -> c.keep(1), c -> c.crashes(3), c -> c.back(1)), whole);
        Cases.due("6 raises: 32 are lost", Cases.then(whole, c -> c.crashes(0), c -> c.crashes(1), c -> c.crashes(2),
                c -> c.crashes(3)), c -> c.raises(), 32);
        Cases.due("6 raises: 24 are raised from 3", Cases.then(whole, c -> c.crashes(0), c -> c.crashes(1), c -> c.crashes(2)),
                c -> c.raises(), 0);
        Cases.due("6 raises: 0 holds all then", Cases.then(whole, c -> c.crashes(0), c -> c.crashes(1), c -> c.crashes(2),
                c -> c.raises()), c -> c.knows(0, 31), 15);
    }

    private static void seen() {
        Cases.Call[] five = Cases.then(Scenes.PAIR, Cases.times(5, c -> c.sees(1, 1)));
        Cases.Call[] six = Cases.then(five, c -> c.sees(0, 2));
        Cases.due("16 sees: the sixth", five, c -> c.sees(0, 2), 6);
        // By {1} alone they have 2 and 1.
        Cases.due("18 which: the sixth counts", six, c -> c.which(1), 2);
        Cases.due("18 which: with five", five, c -> c.which(0), 2);
        Cases.due("18 which: with six", six, c -> c.which(0), 1);
        Cases.leaves("16 sees: a seventh", six, c -> c.sees(0, 2), FULL);
        Cases.leaves("16 sees: a seventh of another site", six, c -> c.sees(1, 0), FULL);
        Cases.due("22 count: SEEN", six, c -> c.count(8), 6);
        Cases.due("17 forget: six", six, c -> c.forget(), 6);
        Cases.due("17 forget: none is left", Cases.then(six, c -> c.forget()), c -> c.count(8), 0);
        Cases.due("16 sees: the first again", Cases.then(six, c -> c.forget()), c -> c.sees(0, 2), 1);
        Cases.due("16 sees: undo() makes no room", Cases.then(six, c -> c.undo()), c -> c.sees(0, 2), FULL);
        Cases.due("16 sees: back() makes no room", Cases.then(six, c -> c.keep(1), c -> c.back(1)), c -> c.sees(0, 2), FULL);
        Cases.due("16 sees: begins() makes room", Cases.then(six, Scenes.begun(2, 2)), c -> c.sees(0, 2), 1);
    }

    /** Of these calls five at most are known: each is undone, the latest first, and no more. */
    private static void undone(String name, Cases.Call... calls) {
        int known = Math.min(5, calls.length);
        Cases.due(name + ": how many may be undone", calls, c -> c.count(9), known);
        Cases.Call[] scene = calls;
        for (int i = 1; i <= known; i++) {
            Cases.due(name + ": undo " + i, scene, c -> c.undo(), known - i);
            scene = Cases.then(scene, c -> c.undo());
            Cases.same(name + ": as ahead of the " + i + " latest", scene, java.util.Arrays.copyOf(calls, calls.length - i));
        }
        Cases.leaves(name + ": no more", scene, c -> c.undo(), STATE);
    }

    private static void undo() {
        Cases.Call[] row = {c -> c.puts(0, 2), c -> c.puts(1, 9), c -> c.receives(0, 3), c -> c.receives(1, 0),
            c -> c.crashes(2)};
        for (int done = 1; done <= 5; done++) {
            undone("7 undo, " + done + " done", java.util.Arrays.copyOf(row, done));
        }
        undone("7 undo, the sixth is begins", Cases.then(row, c -> c.begins(4, 4)));
        undone("7 undo, the sixth is puts", Cases.then(row, c -> c.puts(2, 1)));
        undone("7 undo, the sixth is receives", Cases.then(row, c -> c.receives(1, 3)));
        undone("7 undo, the sixth is crashes", Cases.then(row, c -> c.crashes(0)));
        undone("7 undo, the sixth is raises", Cases.then(row, c -> c.raises()));
        Cases.Call[] all = Cases.then(row, c -> c.raises(), c -> c.puts(0, 50), c -> c.begins(2, 1), c -> c.puts(1, 1),
                c -> c.receives(1, 2), c -> c.crashes(1), c -> c.raises(), c -> c.puts(0, 0));
        for (int done = 6; done <= all.length; done++) {
            undone("7 undo, " + done + " done of all kinds", java.util.Arrays.copyOf(all, done));
        }
        // Others come into the places of PAIR's: 31 + 2 + 2 + 1 = 36, none; 1116 + 3 + 2 + 1 - 997 = 125, to 1.
        Cases.Call[] others = {c -> c.begins(2, 1), c -> c.puts(0, 2), c -> c.puts(0, 3), c -> c.receives(0, 2),
            c -> c.receives(0, 2)};
        Cases.steps("7 undo, others", others, 2, 0, 1, 36, 125);
        undone("7 undo, others were in their places", Cases.then(Scenes.PAIR, others));
        Cases.Call[] undo = Cases.times(5, c -> c.undo());
        Cases.same("7 undo: what a letter tells is its own again", Cases.then(Cases.then(Cases.then(
                java.util.Arrays.copyOf(Scenes.PAIR, 3), others), undo), c -> c.receives(1, 0), c -> c.receives(0, 1)), Scenes.PAIR);
        Cases.Call[] again = Cases.then(row, c -> c.undo(), c -> c.undo(), c -> c.undo(), c -> c.puts(2, 1), c -> c.puts(2, 2),
                c -> c.puts(2, 3), c -> c.puts(2, 4));
        Cases.due("7 undo: 3 of 5 are undone, 4 are done: 5 are known", again, c -> c.count(9), 5);
        Cases.same("7 undo: 3 of 5 are undone, 4 are done, 5 are undone", Cases.then(again, undo), java.util.Arrays.copyOf(row, 1));
        Cases.due("7 undo: and no more", Cases.then(again, undo), c -> c.undo(), STATE);
        Cases.Call[] backed = Cases.then(Cases.then(row, c -> c.keep(0), c -> c.puts(2, 1), c -> c.back(0)),
                Cases.times(6, c -> c.puts(2, 2)));
        Cases.due("7 undo: six behind back(), 5 are known", backed, c -> c.undo(), 4);
        Cases.same("7 undo: six behind back(), 5 are undone", Cases.then(backed, undo), Cases.then(row, c -> c.puts(2, 2)));
        Cases.due("7 undo: six behind back(), no more", Cases.then(backed, undo), c -> c.undo(), STATE);
        Cases.sameInAll("7 undo: five, one undone and done again", Cases.then(row, c -> c.undo(), c -> c.crashes(2)), row);
    }

    private static void images() {
        Cases.Call[] both = Cases.then(Scenes.PAIR, c -> c.keep(0), c -> c.crashes(1), c -> c.keep(1), c -> c.raises());
        Cases.same("21 back: 0 of both", Cases.then(both, c -> c.back(0)), Scenes.PAIR);
        Cases.same("21 back: 1 of both", Cases.then(both, c -> c.back(1)), Cases.then(Scenes.PAIR, c -> c.crashes(1)));
        Cases.same("21 back: 0, behind 1", Cases.then(both, c -> c.back(1), c -> c.back(0)), Scenes.PAIR);
        Cases.same("20 keep: kept again, the later one", Cases.then(both, c -> c.puts(1, 4), c -> c.keep(0), c -> c.undo(),
                c -> c.back(0)), Cases.then(both, c -> c.puts(1, 4)));
        Cases.same("20 keep: the other one stays", Cases.then(both, c -> c.puts(1, 4), c -> c.keep(0), c -> c.back(1)),
                Cases.then(Scenes.PAIR, c -> c.crashes(1)));
        Cases.same("20 keep: what is done behind back() leaves the image", Cases.then(both, c -> c.back(0), c -> c.crashes(0),
                c -> c.back(0)), Scenes.PAIR);
    }

    private static void calls() {
        Cases.Call[] scene = {};
        for (int i = 0; i < 255; i++) {
            scene = Cases.then(scene, c -> c.puts(0, 3), c -> c.undo());
        }
        scene = Cases.then(scene, c -> c.puts(0, 7));
        Cases.due("10 letter: the 512th call", scene, c -> c.letter(3, 0, 0, 0), 7);
        // 31 + 7 + 3 + 1.
        Cases.due("4 receives: the 512th call", scene, c -> c.receives(0, 3), 42);
    }

    public static void main(String[] args) {
        Scenes.check();
        lettersFromOutside();
        lettersOfSites();
        receipts();
        allCodes();
        seen();
        undo();
        images();
        calls();
        Cases.end("full");
    }
}

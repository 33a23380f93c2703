/**
 * Where two or three refusals would fit, the first of BAD, STATE and FULL is answered, and nothing changes; wrong
 * numbers are BAD also where NONE would fit.
 */
public final class RefusalTests {
    private static final int BAD = Cases.BAD, STATE = Cases.STATE, FULL = Cases.FULL, NONE = Cases.NONE;
    private static final int LOW = Cases.LOW, HIGH = Cases.HIGH;

    /** In RICH site 0 has 8 letters from OUTSIDE and 8 receipts, 1 has a letter for it, and 3 is DOWN. */
    private static void badAheadOfFull() {
        int[] contents = {-1, 100, LOW, HIGH};
        int[] none = {-1, 4, 5, LOW, HIGH};
        int[] many = {-1, 9, LOW, HIGH};
        Cases.leaves("3 puts: FULL, where all is as told", Scenes.RICH, c -> c.puts(0, 0), FULL);
        for (int v : contents) {
            Cases.leaves("3 puts: BAD ahead of FULL, v " + v, Scenes.RICH, c -> c.puts(0, v), BAD);
        }
        Cases.leaves("4 receives: FULL, where all is as told", Scenes.RICH, c -> c.receives(0, 1), FULL);
        Cases.leaves("4 receives: BAD ahead of FULL, x is the site", Scenes.RICH, c -> c.receives(0, 0), BAD);
        Cases.leaves("4 receives: BAD ahead of FULL, x too small", Scenes.RICH, c -> c.receives(0, -1), BAD);
        Cases.leaves("4 receives: BAD ahead of FULL, x too large", Scenes.RICH, c -> c.receives(0, 5), BAD);
        Cases.leaves("16 sees: FULL, where all is as told", Scenes.RICH, c -> c.sees(2, 1), FULL);
        for (int site : none) {
            Cases.leaves("16 sees: BAD ahead of FULL, site " + site, Scenes.RICH, c -> c.sees(site, 1), BAD);
        }
        for (int n : many) {
            Cases.leaves("16 sees: BAD ahead of FULL, n " + n, Scenes.RICH, c -> c.sees(2, n), BAD);
        }
    }

    private static void badAheadOfState() {
        Cases.leaves("4 receives: STATE, it is DOWN and has a letter", Scenes.RICH, c -> c.receives(3, 0), STATE);
        Cases.leaves("4 receives: STATE, it is DOWN and has none", Scenes.RICH, c -> c.receives(3, 4), STATE);
        Cases.leaves("4 receives: BAD ahead of STATE, it is DOWN and x", Scenes.RICH, c -> c.receives(3, 3), BAD);
        Cases.leaves("4 receives: BAD ahead of STATE, it is DOWN, x too small", Scenes.RICH, c -> c.receives(3, -1), BAD);
        Cases.leaves("4 receives: BAD ahead of STATE, it is DOWN, x too large", Scenes.RICH, c -> c.receives(3, 5), BAD);
        Cases.leaves("4 receives: BAD ahead of STATE, no letter, x is the site", Scenes.FIRST, c -> c.receives(1, 1), BAD);
        Cases.leaves("4 receives: BAD ahead of STATE, no letter, no such site", Scenes.FIRST, c -> c.receives(3, 0), BAD);
        Cases.Call[] down = Scenes.allDown(2);
        Cases.leaves("5 crashes: STATE, all are DOWN", down, c -> c.crashes(1), STATE);
        Cases.leaves("5 crashes: BAD, all are DOWN, no such site", down, c -> c.crashes(2), BAD);
        Cases.leaves("5 crashes: BAD, all are DOWN, below 0", down, c -> c.crashes(-1), BAD);
        int[] none = {-1, 2, LOW, HIGH};
        for (int image : none) {
            Cases.leaves("21 back: BAD ahead of STATE, " + image, Scenes.FIRST, c -> c.back(image), BAD);
        }
    }

    /** In RICH_DOWN 0 is DOWN and has 8 receipts, and 1 has a letter for it; in EIGHT 1 has 8 and there is no letter. */
    private static void stateAheadOfFull() {
        Cases.leaves("4 receives: STATE ahead of FULL, it is DOWN", Scenes.RICH_DOWN, c -> c.receives(0, 1), STATE);
        Cases.leaves("4 receives: STATE ahead of FULL, it is DOWN, no letter", Scenes.RICH_DOWN, c -> c.receives(0, 4), STATE);
        Cases.leaves("4 receives: STATE ahead of FULL, no letter from a site", Scenes.EIGHT, c -> c.receives(1, 0), STATE);
        Cases.leaves("4 receives: STATE ahead of FULL, no letter from OUTSIDE", Scenes.EIGHT, c -> c.receives(1, 2), STATE);
        Cases.leaves("4 receives: BAD ahead of both, x is the site", Scenes.RICH_DOWN, c -> c.receives(0, 0), BAD);
        Cases.leaves("4 receives: BAD ahead of both, x too small", Scenes.RICH_DOWN, c -> c.receives(0, -1), BAD);
        Cases.leaves("4 receives: BAD ahead of both, x too large", Scenes.RICH_DOWN, c -> c.receives(0, 5), BAD);
    }

    private static void badAheadOfNone() {
        int[] none = {-1, 4, LOW, HIGH};
        for (int what : none) {
            Cases.leaves("10 letter: BAD ahead of NONE, what " + what, Scenes.PAIR, c -> c.letter(0, 1, 1, what), BAD);
        }
        Cases.leaves("10 letter: BAD ahead of NONE, no letter, k below 0", Scenes.FIRST, c -> c.letter(0, 1, -1, 0), BAD);
        Cases.leaves("10 letter: BAD ahead of NONE, k far too many, x is y", Scenes.PAIR, c -> c.letter(1, 1, HIGH, 0), BAD);
        Cases.leaves("10 letter: BAD ahead of NONE, k far too many, no such x", Scenes.PAIR, c -> c.letter(3, 1, HIGH, 0), BAD);
        Cases.leaves("10 letter: BAD ahead of NONE, k far too many, no such y", Scenes.PAIR, c -> c.letter(0, 2, HIGH, 0), BAD);
        Cases.leaves("11 carries: BAD ahead of NONE, no such letter, i below 0", Scenes.PAIR, c -> c.carries(0, 1, 1, -1), BAD);
        Cases.leaves("11 carries: BAD ahead of NONE, k below 0, i far too many", Scenes.PAIR, c -> c.carries(0, 1, -1, HIGH), BAD);
        Cases.leaves("11 carries: BAD ahead of NONE, no such letter, x is y", Scenes.PAIR, c -> c.carries(0, 0, HIGH, HIGH), BAD);
        Cases.leaves("11 carries: BAD ahead of NONE, no such letter, no such x", Scenes.PAIR, c -> c.carries(3, 0, HIGH, 0), BAD);
        Cases.leaves("13 past: BAD ahead of NONE, no such receipt, i far too many", Scenes.PAIR, c -> c.past(1, 1, HIGH), BAD);
        Cases.leaves("13 past: BAD ahead of NONE, no such receipt, i below 0", Scenes.PAIR, c -> c.past(1, 1, -1), BAD);
        Cases.leaves("8 site: BAD, where DOWN would be NONE", Scenes.allDown(3), c -> c.site(3, 0), BAD);
        Cases.leaves("15 worst: NONE, where all is as told", Scenes.allDown(4), c -> c.worst(4), NONE);
        Cases.leaves("15 worst: BAD ahead of NONE, 5", Scenes.allDown(4), c -> c.worst(5), BAD);
        Cases.leaves("15 worst: BAD ahead of NONE, -1", Scenes.allDown(4), c -> c.worst(-1), BAD);
        Cases.leaves("18 which: BAD ahead of NONE, 2", Scenes.allDown(4), c -> c.which(2), BAD);
        Cases.leaves("18 which: BAD ahead of NONE, -1", Scenes.allDown(4), c -> c.which(-1), BAD);
        Cases.leaves("12 knows: BAD, where none is held, 32", Scenes.FIRST, c -> c.knows(0, 32), BAD);
        Cases.leaves("12 knows: BAD, where none is held, -1", Scenes.FIRST, c -> c.knows(0, -1), BAD);
    }

    private static void twoNumbersAreWrong() {
        Cases.leaves("2 begins: both too small", Scenes.RICH, c -> c.begins(1, 0), BAD);
        Cases.leaves("2 begins: both too large", Scenes.RICH, c -> c.begins(5, 5), BAD);
        Cases.leaves("2 begins: ENOUGH as told, but above N", Scenes.RICH, c -> c.begins(2, 4), BAD);
        Cases.leaves("2 begins: ENOUGH one above N", Scenes.RICH, c -> c.begins(3, 4), BAD);
        Cases.leaves("3 puts: both", Scenes.RICH, c -> c.puts(4, 100), BAD);
        Cases.leaves("4 receives: both the same, no site", Scenes.RICH, c -> c.receives(4, 4), BAD);
        Cases.leaves("4 receives: both below 0", Scenes.RICH, c -> c.receives(-1, -1), BAD);
        Cases.leaves("8 site: both", Scenes.RICH, c -> c.site(4, 5), BAD);
        Cases.leaves("9 receipt: all three", Scenes.RICH, c -> c.receipt(4, 8, 6), BAD);
        Cases.leaves("9 receipt: r and what", Scenes.RICH, c -> c.receipt(0, 8, 6), BAD);
        Cases.leaves("10 letter: all four", Scenes.RICH, c -> c.letter(5, 4, -1, 4), BAD);
        Cases.leaves("11 carries: all four", Scenes.RICH, c -> c.carries(5, 4, -1, -1), BAD);
        Cases.leaves("12 knows: both", Scenes.RICH, c -> c.knows(4, 32), BAD);
        Cases.leaves("13 past: all three", Scenes.RICH, c -> c.past(4, 8, -1), BAD);
        Cases.leaves("14 risk: both", Scenes.RICH, c -> c.risk(16, 2), BAD);
        Cases.leaves("16 sees: both", Scenes.RICH, c -> c.sees(4, 9), BAD);
    }

    /** STATE and FULL of each call in scenes with much to change: the other tests have BAD. */
    private static void nothingChanges() {
        Cases.leaves("3 puts: FULL, nothing changes", Scenes.RICH_DOWN, c -> c.puts(0, 3), FULL);
        Cases.leaves("4 receives: STATE, no letter, nothing changes", Scenes.CHAIN, c -> c.receives(0, 3), STATE);
        Cases.leaves("5 crashes: STATE, nothing changes", Scenes.RICH, c -> c.crashes(3), STATE);
        Cases.leaves("6 raises: STATE, nothing changes", Scenes.GAP, c -> c.raises(), STATE);
        Cases.leaves("6 raises: STATE again, nothing changes", Cases.then(Scenes.RICH, c -> c.raises()), c -> c.raises(), STATE);
        Cases.Call[] undone = Cases.then(Scenes.RICH, Cases.times(5, c -> c.undo()));
        Cases.leaves("7 undo: STATE, nothing changes", undone, c -> c.undo(), STATE);
        Cases.leaves("7 undo: STATE behind back(), nothing changes", Cases.then(Scenes.RICH, c -> c.back(0)), c -> c.undo(), STATE);
        Cases.leaves("21 back: STATE, nothing changes", Scenes.PAIR, c -> c.back(0), STATE);
        Cases.leaves("21 back: STATE, the other was kept", Cases.then(Scenes.PAIR, c -> c.keep(0)), c -> c.back(1), STATE);
        Cases.leaves("21 back: STATE, begun behind keep()", Cases.then(Scenes.RICH, c -> c.begins(4, 3)), c -> c.back(0), STATE);
        Cases.leaves("16 sees: FULL, nothing changes", Scenes.RICH_DOWN, c -> c.sees(0, 0), FULL);
    }

    public static void main(String[] args) {
        Scenes.check();
        badAheadOfFull();
        badAheadOfState();
        stateAheadOfFull();
        badAheadOfNone();
        twoNumbersAreWrong();
        nothingChanges();
        Cases.end("refusals");
    }
}

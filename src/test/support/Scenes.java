/** Scenes with answers worked out by hand, one at least for each number of sites. */
final class Scenes {
    private Scenes() {
    }

    static final Cases.Call[] FIRST = {};

    /**
     * Two sites, enough is 2. Receipt 0 of site 0 (code 0; 31 + 1 + 2 + 1 = 35) writes to 1 and carries 0;
     * receipt 0 of site 1 (code 8; 62 + 35 + 0 + 1 = 98) writes to 0 and carries 8 alone, as of 0 it knows
     * both; receipt 1 of site 0 (code 1; 1085 + 98 + 1 + 1 - 997 = 188) would write to itself: nothing.
     */
    static final Cases.Call[] PAIR = {
        c -> c.begins(2, 2), c -> c.puts(0, 1), c -> c.receives(0, 2), c -> c.receives(1, 0), c -> c.receives(0, 1)};

    /** As PAIR, but enough is 1: nothing is carried, and site 1 rests on what 0 alone holds. */
    static final Cases.Call[] LOOSE = {
        c -> c.begins(2, 1), c -> c.puts(0, 1), c -> c.receives(0, 2), c -> c.receives(1, 0)};

    /**
     * Three sites, enough is 3. Site 0: 31 + 4 + 3 + 1 = 39, nothing left over by 3; 1209 + 4 + 3 + 1 - 997 = 220,
     * to 1, carries 0 and 1. Site 1: 62 + 20 + 0 + 1 = 83, to 2, carries 0, 1 (of which it knows two) and 8.
     * Site 2: 93 + 83 + 1 + 1 = 178, to 1, carries 8 and 16: of 0 and 1 it knows three.
     */
    static final Cases.Call[] CHAIN = {
        c -> c.begins(3, 3), c -> c.puts(0, 4), c -> c.receives(0, 3), c -> c.puts(0, 4), c -> c.receives(0, 3),
        c -> c.receives(1, 0), c -> c.receives(2, 1)};

    /**
     * Two sites, enough is 2: all states of 0 are odd and leave something over by 3, so that it writes 8 letters
     * to 1. Each is 31 times the one ahead, and the content and 3. Then 1 receives them all: it writes to 0 by
     * 98 (code 8) and 40 (code 11); the others are odd.
     */
    static final Cases.Call[] EIGHT = {
        c -> c.begins(2, 2),
        c -> c.puts(0, 1), c -> c.receives(0, 2), c -> c.puts(0, 0), c -> c.receives(0, 2),
        c -> c.puts(0, 3), c -> c.receives(0, 2), c -> c.puts(0, 0), c -> c.receives(0, 2),
        c -> c.puts(0, 1), c -> c.receives(0, 2), c -> c.puts(0, 1), c -> c.receives(0, 2),
        c -> c.puts(0, 3), c -> c.receives(0, 2), c -> c.puts(0, 0), c -> c.receives(0, 2),
        c -> c.receives(1, 0), c -> c.receives(1, 0), c -> c.receives(1, 0), c -> c.receives(1, 0),
        c -> c.receives(1, 0), c -> c.receives(1, 0), c -> c.receives(1, 0), c -> c.receives(1, 0)};

    /**
     * Three sites, enough is 2. Site 0: 31 + 2 + 3 + 1 = 37, to 1, carries 0. Site 1: 62 + 37 + 0 + 1 = 100, to
     * itself: nothing. 0, raised, knows both of 0; 1147 + 1 + 3 + 1 - 997 = 155, to 2, carries 1 alone. Site 2:
     * 93 + 55 + 0 + 1 = 149, to itself: nothing. It holds 1, and not 0, which is ahead of it.
     */
    static final Cases.Call[] GAP = {
        c -> c.begins(3, 2), c -> c.puts(0, 2), c -> c.receives(0, 3), c -> c.receives(1, 0),
        c -> c.crashes(0), c -> c.raises(), c -> c.puts(0, 1), c -> c.receives(0, 3), c -> c.receives(2, 0)};

    /**
     * Four sites, enough is 3. Site 3: 124 + 4 + 4 + 1 = 133, to 1, carries 24. Site 1: 62 + 33 + 3 + 1 = 99, nothing
     * left over by 3. 0, raised, knows three of 24, two of 8: 31 + 7 + 4 + 1 = 43, to 3, carries 0 and 8; 1333 + 5 + 4
     * + 1 - 997 = 346, to 2, carries 0, 1 and 8. Site 2: 93 + 46 + 0 + 1 = 140, to 0, carries 0, 1 and 16. When all but
     * 2 crash, 24 is lost, and with it 8, though 2 holds that; the letters by 0 and 1, that carried it, stay.
     */
    static final Cases.Call[] STAYS = {
        c -> c.begins(4, 3), c -> c.puts(3, 4), c -> c.receives(3, 4), c -> c.receives(1, 3), c -> c.crashes(0),
        c -> c.raises(), c -> c.puts(0, 7), c -> c.puts(0, 5), c -> c.receives(0, 4), c -> c.receives(0, 4),
        c -> c.receives(2, 0), c -> c.crashes(0), c -> c.crashes(1), c -> c.crashes(3), c -> c.raises()};

    /**
     * Four sites, enough is 3; full in each way: 8 letters from outside to 0, that it has all received (31 * s + 10
     * + 4 + 1, what is left over by 997), a letter from 1 to 0 that it has no room for, 3 that is down and has a
     * letter, two images, 6 seen (site 2 keeps its receipt: by the sets {0}, {1} and both), 5 that can be undone.
     */
    static final Cases.Call[] RICH = {
        c -> c.begins(4, 3),
        c -> c.puts(0, 10), c -> c.puts(0, 10), c -> c.puts(0, 10), c -> c.puts(0, 10),
        c -> c.puts(0, 10), c -> c.puts(0, 10), c -> c.puts(0, 10), c -> c.puts(0, 10),
        c -> c.receives(0, 4), c -> c.receives(0, 4), c -> c.receives(0, 4), c -> c.receives(0, 4),
        c -> c.receives(0, 4), c -> c.receives(0, 4), c -> c.receives(0, 4), c -> c.receives(0, 4),
        c -> c.puts(1, 1), c -> c.receives(1, 4), c -> c.keep(0), c -> c.receives(2, 0), c -> c.keep(1),
        c -> c.crashes(3),
        c -> c.sees(2, 1), c -> c.sees(2, 1), c -> c.sees(2, 1), c -> c.sees(2, 1), c -> c.sees(2, 1),
        c -> c.sees(2, 1)};

    /** As RICH, but 0 too is down: it has 8 receipts, and a letter from 1 waits for it. */
    static final Cases.Call[] RICH_DOWN = Cases.then(RICH, c -> c.crashes(0));

    /** By number of sites, less 2. */
    static final Cases.Call[][] BY_SITES = {PAIR, CHAIN, RICH};

    static Cases.Call[] begun(int n, int enough) {
        return Cases.scene(c -> c.begins(n, enough));
    }

    static Cases.Call[] allDown(int n) {
        Cases.Call[] scene = begun(n, n);
        for (int q = 0; q < n; q++) {
            int site = q;
            scene = Cases.then(scene, c -> c.crashes(site));
        }
        return scene;
    }

    /** The scenes answer as their comments say. */
    static void check() {
        Cases.steps("scene PAIR", PAIR, 2, 0, 35, 98, 188);
        Cases.steps("scene LOOSE", LOOSE, 2, 0, 35, 98);
        Cases.steps("scene CHAIN", CHAIN, 3, 0, 39, 1, 220, 83, 178);
        Cases.steps("scene EIGHT", EIGHT, 2, 0, 35, 1, 91, 2, 833, 3, 901, 4, 19, 5, 593, 6, 443, 7, 775,
                98, 139, 355, 40, 263, 271, 469, 657);
        Cases.steps("scene GAP", GAP, 3, 0, 37, 100, 1, 0, 1, 155, 149);
        Cases.steps("scene STAYS", STAYS, 4, 0, 133, 99, 1, 0, 0, 1, 43, 346, 140, 1, 2, 3, 2);
        Cases.steps("scene RICH", RICH, 4, 0, 1, 2, 3, 4, 5, 6, 7, 46, 444, 818, 448, 942, 304, 466, 503,
                0, 68, 9, 140, 10, 1, 1, 2, 3, 4, 5, 6);
    }
}

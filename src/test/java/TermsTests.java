/** The boundary cases that the document's terms name, each by the promise in which it shows. */
public final class TermsTests {
    private static final int BAD = Cases.BAD, STATE = Cases.STATE, NONE = Cases.NONE;

    private static Cases.Call[] first(int calls, Cases.Call[] scene) {
        return java.util.Arrays.copyOf(scene, calls);
    }

    private static void begun() {
        for (int n = 2; n <= 4; n++) {
            int outside = n;
            Cases.Call[] scene = Cases.then(Scenes.begun(n, 1), c -> c.puts(0, 61));
            Cases.due("2 begins: OUTSIDE is the number N, " + n, scene, c -> c.letter(outside, 0, 0, 0), 61);
            Cases.due("2 begins: there is no N and 1, " + n, scene, c -> c.letter(outside + 1, 0, 0, 0), BAD);
            Cases.due("2 begins: N is no site, " + n, scene, c -> c.site(outside, 1), BAD);
            Cases.due("2 begins: SEEN is gone, " + n, Cases.then(Scenes.RICH, Scenes.begun(n, 1)), c -> c.count(8), 0);
            Cases.due("2 begins: image 0 is gone, " + n, Cases.then(Scenes.RICH, Scenes.begun(n, 1)), c -> c.back(0), STATE);
            Cases.due("2 begins: image 1 is gone, " + n, Cases.then(Scenes.RICH, Scenes.begun(n, 1)), c -> c.back(1), STATE);
        }
        Cases.Call[] undone = Cases.then(Scenes.RICH, c -> c.begins(2, 1), c -> c.undo());
        Cases.same("2 begins: undone, all that 1 tells is there", undone, Scenes.RICH);
        Cases.due("2 begins: undone, SEEN is gone", undone, c -> c.count(8), 0);
        Cases.due("2 begins: undone, images are gone", undone, c -> c.back(0), STATE);
        Cases.due("2 begins: undone, four older ones may be", undone, c -> c.count(9), 4);
        Cases.sameInAll("1 new: another object is another", Cases.then(Scenes.RICH, c -> Cases.made(Scenes.EIGHT).crashes(0)),
                Scenes.RICH);
    }

    /** Site 0 of three comes to 64 = 31 + 29 + 3 + 1 and wrote to 1; 31 * 64 = 1984 and 3, 1 and the content. */
    private static final Cases.Call[] SIXTY_FOUR = {c -> c.puts(0, 29), c -> c.receives(0, 3)};

    private static Cases.Call[] behind64(int content) {
        return Cases.then(SIXTY_FOUR, c -> c.puts(0, content));
    }

    private static void stateOfAReceipt() {
        Cases.due("4 receives: 1993 leaves 996 over by 997", behind64(5), c -> c.receives(0, 3), 996);
        Cases.due("4 receives: 1994 leaves nothing over by 997", behind64(6), c -> c.receives(0, 3), 0);
        Cases.due("4 receives: 1995 leaves 1 over by 997", behind64(7), c -> c.receives(0, 3), 1);
        Cases.due("8 site: the STATE is 0", Cases.then(behind64(6), c -> c.receives(0, 3)), c -> c.site(0, 0), 0);
        Cases.due("9 receipt: the STATE behind it is 0", Cases.then(behind64(6), c -> c.receives(0, 3)), c -> c.receipt(0, 1, 2), 0);
        Cases.due("4 receives: from STATE 0 on", Cases.then(behind64(6), c -> c.receives(0, 3), c -> c.puts(0, 0)),
                c -> c.receives(0, 3), 4);
        Cases.due("4 receives: CONTENT 0", Cases.scene(c -> c.puts(0, 0)), c -> c.receives(0, 3), 35);
        Cases.due("4 receives: CONTENT 99", Cases.scene(c -> c.puts(0, 99)), c -> c.receives(0, 3), 134);
        Cases.due("4 receives: x is 0", first(3, Scenes.PAIR), c -> c.receives(1, 0), 98);
        Cases.Call[] two = {c -> c.puts(0, 5), c -> c.puts(0, 9)};
        Cases.due("4 receives: the lowest number first", two, c -> c.receives(0, 3), 40);
        // 31 * 40 + 9 + 3 + 1 - 997.
        Cases.due("4 receives: then the next", Cases.then(two, c -> c.receives(0, 3)), c -> c.receives(0, 3), 256);
        Cases.due("4 receives: then none", Cases.then(two, c -> c.receives(0, 3), c -> c.receives(0, 3)), c -> c.receives(0, 3), STATE);
    }

    private static void lettersThatAreWritten() {
        Cases.due("4 receives: 39 leaves nothing over by 3, no letter", first(3, Scenes.CHAIN), c -> c.site(0, 4), 0);
        Cases.due("4 receives: 220 leaves 1 over by 3, a letter", first(5, Scenes.CHAIN), c -> c.site(0, 4), 1);
        Cases.due("4 receives: 83 leaves 2 over by 3, a letter", first(6, Scenes.CHAIN), c -> c.site(1, 4), 1);
        Cases.due("4 receives: 996, no letter", Cases.then(behind64(5), c -> c.receives(0, 3)), c -> c.site(0, 4), 1);
        Cases.due("4 receives: 0, no letter", Cases.then(behind64(6), c -> c.receives(0, 3)), c -> c.site(0, 4), 1);
        Cases.due("4 receives: 1, a letter", Cases.then(behind64(7), c -> c.receives(0, 3)), c -> c.letter(0, 1, 1, 0), 1);
        Cases.due("4 receives: z is the site, 0 by 188, no letter", Scenes.PAIR, c -> c.site(0, 4), 1);
        Cases.due("4 receives: z is the site, 1 by 100, no letter", first(4, Scenes.GAP), c -> c.site(1, 4), 0);
        Cases.due("4 receives: z is the site, 2 by 149, no letter", Scenes.GAP, c -> c.site(2, 4), 0);
        Cases.due("4 receives: z is the first site", Scenes.RICH, c -> c.letter(1, 0, 0, 0), 68);
        Cases.due("4 receives: z is the last site", Scenes.RICH, c -> c.letter(0, 3, 0, 0), 3);
        // 31 + 1 + 4 = 36, which writes none; 1116 + 76 + 4 - 997 = 199, to 1.
        Cases.due("4 receives: STATE 199, CONTENT 99",
                Cases.scene(c -> c.puts(0, 1), c -> c.receives(0, 3), c -> c.puts(0, 76), c -> c.receives(0, 3)),
                c -> c.letter(0, 1, 0, 0), 99);
        // 124 + 71 + 4 + 1 = 200, to 0.
        Cases.due("4 receives: STATE 200, CONTENT 0",
                Cases.scene(c -> c.begins(4, 1), c -> c.puts(3, 71), c -> c.receives(3, 4)), c -> c.letter(3, 0, 0, 0), 0);
        Cases.due("10 letter: BIRTH 0 is no NONE", Scenes.PAIR, c -> c.letter(0, 1, 0, 1), 0);
        Cases.due("10 letter: BIRTH from OUTSIDE", Scenes.PAIR, c -> c.letter(2, 0, 0, 1), NONE);
        Cases.Call[] toDown = Cases.scene(c -> c.crashes(1), c -> c.puts(0, 2), c -> c.receives(0, 3));
        Cases.due("4 receives: z is DOWN, a letter", toDown, c -> c.letter(0, 1, 0, 0), 37);
        Cases.due("4 receives: z is DOWN, it gets it when it is raised", Cases.then(toDown, c -> c.raises()),
                c -> c.receives(1, 0), 100);
        Cases.Call[] fromDown = Cases.scene(c -> c.puts(0, 2), c -> c.receives(0, 3), c -> c.crashes(0));
        Cases.due("4 receives: x is DOWN", fromDown, c -> c.receives(1, 0), 100);
        Cases.due("12 knows: the letter tells of x, that is DOWN", Cases.then(fromDown, c -> c.receives(1, 0)), c -> c.knows(1, 0), 3);
    }

    private static Cases.Call[] chain(int enough) {
        Cases.Call[] scene = Scenes.CHAIN.clone();
        scene[0] = c -> c.begins(3, enough);
        return scene;
    }

    private static void whatIsCarried() {
        Cases.due("4 receives: of 3 known, ENOUGH 3, not carried", Scenes.CHAIN, c -> c.letter(2, 1, 0, 2), 2);
        Cases.due("11 carries: the first that is", Scenes.CHAIN, c -> c.carries(2, 1, 0, 0), 8);
        Cases.due("11 carries: the second that is", Scenes.CHAIN, c -> c.carries(2, 1, 0, 1), 16);
        Cases.due("4 receives: of 2 known, ENOUGH 3, carried", Scenes.CHAIN, c -> c.letter(1, 2, 0, 2), 3);
        Cases.due("4 receives: of 2 known, ENOUGH 2, not carried", chain(2), c -> c.letter(1, 2, 0, 2), 1);
        Cases.due("4 receives: of 1 known, ENOUGH 2, carried", chain(2), c -> c.letter(0, 1, 0, 2), 2);
        Cases.due("4 receives: of 1 known, ENOUGH 1, not carried", chain(1), c -> c.letter(0, 1, 0, 2), 0);
        Cases.due("11 carries: nothing by ENOUGH 1", chain(1), c -> c.carries(0, 1, 0, 0), NONE);
        Cases.due("22 count: nothing carried by ENOUGH 1", chain(1), c -> c.count(7), 0);
        Cases.due("22 count: carried by ENOUGH 2", chain(2), c -> c.count(7), 2 + 1 + 1);
        Cases.due("22 count: carried by ENOUGH 3", chain(3), c -> c.count(7), 2 + 3 + 2);
    }

    private static void whatIsKnown() {
        Cases.due("12 knows: its new code, itself alone", Scenes.CHAIN, c -> c.knows(2, 16), 4);
        Cases.due("12 knows: what the letter tells, and itself", Scenes.CHAIN, c -> c.knows(2, 0), 7);
        Cases.due("12 knows: who wrote is not told of it", Scenes.CHAIN, c -> c.knows(0, 0), 1);
        Cases.due("12 knows: what the letter does not carry", chain(1), c -> c.knows(1, 0), 0);
        // 2 is raised and holds 0; then 0 is raised, and knows it; its letter was written ahead of that.
        Cases.Call[] told = Cases.scene(c -> c.puts(0, 2), c -> c.receives(0, 3), c -> c.crashes(2), c -> c.raises(),
                c -> c.crashes(0), c -> c.raises());
        Cases.due("12 knows: 0 knows of 2 now", told, c -> c.knows(0, 0), 5);
        Cases.due("12 knows: the letter tells whom 0 KNEW then", Cases.then(told, c -> c.receives(1, 0)), c -> c.knows(1, 0), 3);
        Cases.Call[] knew = Cases.scene(c -> c.puts(0, 2), c -> c.receives(0, 3), c -> c.crashes(2), c -> c.raises(),
                c -> c.crashes(1), c -> c.raises());
        Cases.due("12 knows: 1 knows of all", knew, c -> c.knows(1, 0), 7);
        Cases.due("12 knows: besides those that it KNEW", Cases.then(knew, c -> c.receives(1, 0)), c -> c.knows(1, 0), 7);
    }

    private static void crashed() {
        Cases.Call[] down = Cases.then(Scenes.PAIR, c -> c.crashes(0));
        Cases.due("5 crashes: it has no STATE", down, c -> c.site(0, 0), NONE);
        Cases.due("5 crashes: it has the RECEIPTS that it had", down, c -> c.site(0, 1), 2);
        Cases.due("5 crashes: it HOLDS nothing", down, c -> c.site(0, 2), 0);
        Cases.due("5 crashes: it KNOWS nothing", down, c -> c.knows(0, 0), 0);
        Cases.due("5 crashes: its letters stay", down, c -> c.letter(0, 1, 0, 0), 35);
        Cases.due("5 crashes: what its letters carry stays", down, c -> c.carries(0, 1, 0, 0), 0);
        Cases.due("5 crashes: others KNOW as ahead", down, c -> c.knows(1, 0), 3);
        Cases.due("5 crashes: its receipt is there", down, c -> c.receipt(0, 1, 2), 188);
        Cases.due("5 crashes: the last one", down, c -> c.crashes(1), 2);
        Cases.due("5 crashes: again, when it was raised", Cases.then(down, c -> c.raises()), c -> c.crashes(0), 1);
        Cases.due("5 crashes: again, when it was undone", Cases.then(down, c -> c.undo()), c -> c.crashes(0), 1);
    }

    /** 2 holds code 1, and none that is not down holds 0, which is ahead of it: both go, and what rests on them. */
    private static void raisedWithAGap() {
        Cases.Call[] down = Cases.then(Scenes.GAP, c -> c.crashes(0), c -> c.crashes(1));
        Cases.Call[] raised = Cases.then(down, c -> c.raises());
        Cases.due("6 raises: a code is held, but not the one ahead of it", down, c -> c.raises(), 4);
        Cases.due("6 raises: an ORPHAN loses its only receipt", raised, c -> c.site(2, 1), 0);
        Cases.due("6 raises: the ORPHAN's first STATE", raised, c -> c.site(2, 0), 3);
        Cases.due("6 raises: the first STATE, none is KEPT", raised, c -> c.site(0, 0), 1);
        Cases.due("6 raises: what is LOST is HELD by none", raised, c -> c.site(2, 2), 0);
        Cases.due("6 raises: nothing is left to HOLD", raised, c -> c.site(0, 2), 0);
        Cases.due("6 raises: letters from OUTSIDE stay", raised, c -> c.count(3), 2);
        Cases.due("6 raises: none of them has a receipt", raised, c -> c.count(4), 2);
        Cases.due("6 raises: none is DOWN", raised, c -> c.count(5), 0);
        Cases.due("6 raises: the letter is received anew", raised, c -> c.receives(0, 3), 37);
    }

    private static void raised() {
        Cases.due("6 raises: all that 0 had is HELD", Cases.then(Scenes.GAP, c -> c.crashes(0)), c -> c.raises(), 0);
        Cases.due("6 raises: STATE as it was then", Cases.then(Scenes.GAP, c -> c.crashes(0), c -> c.raises()), c -> c.site(0, 0), 155);
        // 1 holds 0 and 8: 0 keeps its first one, 2 none.
        Cases.Call[] some = Cases.then(Scenes.GAP, c -> c.crashes(0), c -> c.crashes(2), c -> c.raises());
        Cases.due("6 raises: two DOWN hold each other's no more", first(11, some), c -> c.raises(), 2);
        Cases.due("6 raises: STATE behind the last that is KEPT", some, c -> c.site(0, 0), 37);
        Cases.due("6 raises: one is KEPT", some, c -> c.site(0, 1), 1);
        Cases.due("6 raises: letters of the KEPT stay", some, c -> c.letter(0, 1, 0, 3), 1);
        Cases.due("6 raises: letters of the LOST are no more", some, c -> c.letter(0, 2, 0, 0), NONE);
        Cases.due("6 raises: the raised HOLD all that are left", some, c -> c.site(2, 2), 2);
        Cases.due("6 raises: the raised KNOW of each other, 0", some, c -> c.knows(0, 8), 7);
        Cases.due("6 raises: the raised KNOW of each other, 2", some, c -> c.knows(2, 0), 7);
        Cases.due("6 raises: one that was not DOWN KNOWS as ahead", some, c -> c.knows(1, 0), 3);
        Cases.due("6 raises: a new letter has the number of the LOST one",
                Cases.then(some, c -> c.receives(0, 3)), c -> c.letter(0, 2, 0, 1), 1);
        Cases.due("6 raises: one that had nothing HOLDS what the others do",
                Cases.scene(c -> c.puts(0, 2), c -> c.receives(0, 3), c -> c.crashes(2), c -> c.raises()), c -> c.knows(2, 0), 5);
        Cases.Call[] none = Cases.then(Scenes.PAIR, c -> c.crashes(0), c -> c.crashes(1));
        Cases.due("6 raises: all were DOWN, all are LOST", none, c -> c.raises(), 3);
        Cases.same("6 raises: all were DOWN, as behind puts()", Cases.then(none, c -> c.raises()), first(2, Scenes.PAIR));
    }

    /** For each number of sites, to each of them, whichever crash. */
    private static void lettersFromOutsideStay() {
        for (int n = 2; n <= 4; n++) {
            Cases.Call[] put = Scenes.begun(n, n);
            for (int q = 0; q < n; q++) {
                int site = q;
                put = Cases.then(put, c -> c.puts(site, 10 + site), c -> c.puts(site, 20 + site));
            }
            for (int set = 1; set < 1 << n; set++) {
                Cases.Call[] down = put;
                for (int q = 0; q < n; q++) {
                    int site = q;
                    down = (set >> q & 1) == 0 ? down : Cases.then(down, c -> c.crashes(site));
                }
                Cases.same("6 raises: letters from OUTSIDE stay, set " + set + " of " + n + " sites",
                        Cases.then(down, c -> c.raises()), put);
            }
        }
    }

    /** 62 + 1 + 2 + 1 = 66, no letter; 35, to 1; 2046 + 35 + 0 + 1 - 1994 = 88, to 0. Enough is 1: nothing is carried. */
    private static void orphans() {
        Cases.Call[] orphan = Cases.scene(c -> c.begins(2, 1), c -> c.puts(1, 1), c -> c.receives(1, 2), c -> c.puts(0, 1),
                c -> c.receives(0, 2), c -> c.receives(1, 0));
        Cases.Call[] raised = Cases.then(orphan, c -> c.crashes(0), c -> c.raises());
        Cases.due("4 receives: 88", first(5, orphan), c -> c.receives(1, 0), 88);
        Cases.due("14 risk: LOST with an ORPHAN", orphan, c -> c.risk(1, 0), 2);
        Cases.due("14 risk: an ORPHAN", orphan, c -> c.risk(1, 1), 1);
        Cases.due("14 risk: one that is in the set is no ORPHAN", orphan, c -> c.risk(3, 1), 0);
        Cases.due("14 risk: one that rests on none is no ORPHAN", orphan, c -> c.risk(2, 1), 0);
        Cases.due("14 risk: one that is DOWN is no ORPHAN", Cases.then(orphan, c -> c.crashes(0), c -> c.crashes(1)),
                c -> c.risk(0, 1), 0);
        Cases.due("6 raises: an ORPHAN keeps its first one", raised, c -> c.site(1, 1), 1);
        Cases.due("6 raises: an ORPHAN's STATE behind it", raised, c -> c.site(1, 0), 66);
        Cases.due("6 raises: an ORPHAN HOLDS what is KEPT", raised, c -> c.site(1, 2), 1);
        Cases.due("6 raises: an ORPHAN's letter is no more", raised, c -> c.letter(1, 0, 0, 0), NONE);
    }

    /** 62 + 3 + 2 + 1 = 68, to 0; 31 + 68 + 1 + 1 = 101, to 1. Enough is 1: what site 0 has rests on what 1 alone holds. */
    private static void orphanOfTheLowestNumber() {
        Cases.Call[] orphan = Cases.scene(c -> c.begins(2, 1), c -> c.puts(1, 3), c -> c.receives(1, 2), c -> c.receives(0, 1));
        Cases.Call[] raised = Cases.then(orphan, c -> c.crashes(1), c -> c.raises());
        Cases.due("14 risk: site 0 is an ORPHAN, LOST", orphan, c -> c.risk(2, 0), 2);
        Cases.due("14 risk: site 0 is an ORPHAN", orphan, c -> c.risk(2, 1), 1);
        Cases.due("6 raises: site 0 is an ORPHAN, and HOLDS nothing", raised, c -> c.site(0, 2), 0);
        Cases.same("6 raises: site 0 is an ORPHAN, as behind puts()", raised, first(2, orphan));
    }

    private static void carriedNoMore() {
        Cases.Call[] whole = first(11, Scenes.STAYS);
        Cases.due("6 raises: ahead, a letter carries 0 and 8", whole, c -> c.letter(0, 3, 0, 2), 2);
        Cases.due("6 raises: ahead, 2 HOLDS 8", whole, c -> c.knows(2, 8), 7);
        Cases.due("22 count: ahead, 24 once, and 2, 3, 3", whole, c -> c.count(7), 9);
        Cases.due("6 raises: a code is held, but what wrote its letter is LOST", Scenes.STAYS, c -> c.site(1, 1), 0);
        Cases.due("6 raises: it is HELD no more", Scenes.STAYS, c -> c.knows(2, 8), 0);
        Cases.due("6 raises: it is CARRIED no more, 0 is", Scenes.STAYS, c -> c.carries(0, 3, 0, 0), 0);
        Cases.due("6 raises: it is CARRIED no more", Scenes.STAYS, c -> c.carries(0, 3, 0, 1), NONE);
        Cases.due("6 raises: it is CARRIED no more, by another", Scenes.STAYS, c -> c.letter(0, 2, 0, 2), 2);
        Cases.due("22 count: CARRIED then, 1, 2, 3", Scenes.STAYS, c -> c.count(7), 6);
        // 1 has a receipt of the same code again: 62 + 2 + 4 + 1 = 69. Then 3 receives what carried the LOST one.
        Cases.Call[] again = Cases.then(Scenes.STAYS, c -> c.puts(1, 2), c -> c.receives(1, 4), c -> c.receives(3, 0));
        Cases.due("6 raises: a letter that carried the LOST one does not tell of another", again, c -> c.knows(3, 8), 0);
        Cases.due("6 raises: that is HELD by its site alone", again, c -> c.receipt(1, 0, 3), 2);
        Cases.due("6 raises: and KNOWN to it alone", again, c -> c.knows(1, 8), 2);
        Cases.due("6 raises: 0, 1, 16 and 24 are HELD", again, c -> c.site(3, 2), 4);
    }

    private static void safe() {
        Cases.due("9 receipt: held by ENOUGH, SAFE", Scenes.CHAIN, c -> c.receipt(0, 0, 4), 1);
        Cases.due("9 receipt: held by one fewer, not SAFE", Scenes.CHAIN, c -> c.receipt(1, 0, 4), 0);
        Cases.due("9 receipt: held by one alone, ENOUGH 1, SAFE", chain(1), c -> c.receipt(2, 0, 4), 1);
        Cases.Call[] more = Cases.then(Scenes.GAP, c -> c.crashes(2), c -> c.raises());
        Cases.due("9 receipt: held by all three", more, c -> c.receipt(0, 0, 3), 7);
        Cases.due("9 receipt: held by more than ENOUGH, SAFE", more, c -> c.receipt(0, 0, 4), 1);
        Cases.Call[] none = Cases.then(Scenes.LOOSE, c -> c.crashes(0));
        Cases.due("9 receipt: held by none", none, c -> c.receipt(0, 0, 3), 0);
        Cases.due("9 receipt: held by none, ENOUGH 1, not SAFE", none, c -> c.receipt(0, 0, 4), 0);
        Cases.due("22 count: SAFE, two of four", Scenes.CHAIN, c -> c.count(6), 2);
        Cases.due("22 count: SAFE, one is held by none", none, c -> c.count(6), 1);
    }

    private static void past(String name, Cases.Call[] scene, int q, int r, int... codes) {
        Cases.due("13 past: " + name + ", how many", scene, c -> c.receipt(q, r, 5), codes.length);
        for (int i = 0; i < codes.length; i++) {
            int at = i;
            Cases.due("13 past: " + name + ", " + i, scene, c -> c.past(q, r, at), codes[i]);
        }
        Cases.due("13 past: " + name + ", no more", scene, c -> c.past(q, r, codes.length), NONE);
    }

    private static void pasts() {
        past("itself alone", Scenes.PAIR, 0, 0, 0);
        past("the one that wrote, and none behind that", Scenes.PAIR, 1, 0, 0, 8);
        past("those ahead, and the one that wrote", Scenes.PAIR, 0, 1, 0, 1, 8);
        past("the past of these", Scenes.CHAIN, 2, 0, 0, 1, 8, 16);
        past("also what is not carried", chain(1), 2, 0, 0, 1, 8, 16);
        past("also of one that is DOWN", Cases.then(Scenes.CHAIN, c -> c.crashes(2)), 2, 0, 0, 1, 8, 16);
        past("of one that was raised", Cases.then(Scenes.GAP, c -> c.crashes(0), c -> c.raises()), 2, 0, 0, 1, 16);
    }

    /** GAP, by set 0 to 7, has lost 0, 0, 0, 4, 1, 2, 1, 4. */
    private static void risks() {
        int[] lost = {0, 0, 0, 4, 1, 2, 1, 4};
        int[] orphans = {0, 0, 0, 1, 0, 0, 0, 0};
        for (int set = 0; set < 8; set++) {
            int s = set;
            Cases.leaves("14 risk: LOST by " + set, Scenes.GAP, c -> c.risk(s, 0), lost[set]);
            Cases.leaves("14 risk: ORPHANS by " + set, Scenes.GAP, c -> c.risk(s, 1), orphans[set]);
        }
        Cases.Call[] down = Cases.then(Scenes.GAP, c -> c.crashes(2));
        for (int set = 0; set < 8; set++) {
            int s = set;
            Cases.leaves("14 risk: 2 is DOWN, LOST by " + set, down, c -> c.risk(s, 0), lost[set | 4]);
            Cases.leaves("14 risk: 2 is DOWN, ORPHANS by " + set, down, c -> c.risk(s, 1), 0);
        }
        Cases.leaves("14 risk: 0 and 1 are DOWN, 2 is an ORPHAN of none more",
                Cases.then(Scenes.GAP, c -> c.crashes(0), c -> c.crashes(1)), c -> c.risk(0, 1), 1);
        int[] worst = {0, 1, 4, 4, NONE};
        int[] worstDown = {1, 2, 4, NONE, NONE};
        for (int k = 0; k < 5; k++) {
            int many = k;
            Cases.leaves("15 worst: of " + k, Scenes.GAP, c -> c.worst(many), worst[k]);
            Cases.leaves("15 worst: 2 is DOWN, of " + k, down, c -> c.worst(many), worstDown[k]);
        }
    }

    private static void seen(String name, Cases.Call[] scene, int sets, int least, int ask) {
        Cases.leaves("18 which: " + name + ", how many", scene, c -> c.which(0), sets);
        Cases.leaves("18 which: " + name + ", the least", scene, c -> c.which(1), least);
        Cases.leaves("19 ask: " + name, scene, c -> c.ask(), ask);
    }

    /**
     * GAP leaves the sites, by set 1 to 7: 2 1 1, 2 1 1, 0 0 0, 2 1 0, 1 1 0, 2 1 0, 0 0 0. So of seven sets four are
     * alike by site 0, five by 1, five by 2.
     */
    private static void whichSites() {
        seen("nothing seen", Scenes.GAP, 7, 1, 0);
        seen("by 2 three are alike", Cases.then(Scenes.GAP, c -> c.sees(1, 1)), 5, 1, 2);
        seen("by 2 two are alike", Cases.then(Scenes.GAP, c -> c.sees(0, 2)), 4, 1, 2);
        seen("two sets, all alike by all: the least site", Cases.then(Scenes.GAP, c -> c.sees(2, 1)), 2, 1, 0);
        seen("all are LOST", Cases.then(Scenes.GAP, c -> c.sees(0, 0)), 2, 3, 0);
        seen("one set", Cases.then(Scenes.GAP, c -> c.sees(0, 1)), 1, 5, NONE);
        seen("one more than it has", Cases.then(Scenes.GAP, c -> c.sees(0, 3)), 0, NONE, NONE);
        seen("two that do not agree", Cases.then(Scenes.GAP, c -> c.sees(0, 2), c -> c.sees(0, 1)), 0, NONE, NONE);
        seen("the same twice", Cases.then(Scenes.GAP, c -> c.sees(0, 1), c -> c.sees(0, 1)), 1, 5, NONE);
        // By {0} 1 1, by {1} 1 0, by both 0 0: two are alike by either site.
        seen("the set of all counts, and of several the least", first(4, Scenes.PAIR), 3, 1, 0);
        // With 2 DOWN: 2 1 0 at once, by {0} 1 1 0, by {1} 2 1 0, by both 0 0 0.
        Cases.Call[] down = Cases.then(Scenes.GAP, c -> c.crashes(2));
        seen("2 is DOWN, it is in no set", down, 3, 1, 0);
        seen("2 is DOWN, and has none", Cases.then(down, c -> c.sees(2, 0)), 3, 1, 0);
        seen("2 is DOWN, 0 has all", Cases.then(down, c -> c.sees(0, 2)), 1, 2, NONE);
        seen("as all is when it is asked", Cases.then(Scenes.GAP, c -> c.sees(2, 1), c -> c.crashes(2)), 0, NONE, NONE);
        // 34 + 2 = 36 and 65 + 1 = 66 write no letters: by each set but the empty one something is lost.
        Cases.Call[] alone = Cases.scene(c -> c.begins(2, 2), c -> c.puts(0, 2), c -> c.receives(0, 2), c -> c.puts(1, 1),
                c -> c.receives(1, 2));
        seen("the empty set is none", Cases.then(alone, c -> c.sees(0, 1), c -> c.sees(1, 1)), 0, NONE, NONE);
        Cases.due("14 risk: though nothing is LOST by it", alone, c -> c.risk(0, 0), 0);
        Cases.Call[] four = Cases.scene(c -> c.begins(2, 2), c -> c.begins(4, 2));
        seen("a site that there is no more has 0", Cases.then(four, c -> c.sees(3, 0), c -> c.undo()), 3, 1, 0);
        seen("a site that there is no more has not 1", Cases.then(four, c -> c.sees(3, 1), c -> c.undo()), 0, NONE, NONE);
        seen("the first that there is no more has 0", Cases.then(four, c -> c.sees(2, 0), c -> c.undo()), 3, 1, 0);
        Cases.due("16 sees: a site that there is no more", Cases.then(four, c -> c.undo()), c -> c.sees(2, 0), BAD);
    }

    /** Two sites: 62 + 9 + 2 + 1 = 74, to 0; 31 + 74 + 1 + 1 = 107, to 1; 31 * 74 + 7 + 0 + 1 - 1994 = 308, to 0. */
    private static final Cases.Call[] OTHERS = {c -> c.puts(1, 9), c -> c.puts(0, 30), c -> c.receives(1, 2),
        c -> c.receives(0, 1), c -> c.receives(1, 0)};
    private static final Cases.Call[] OTHERS_THERE = Cases.then(Scenes.begun(2, 2), OTHERS);

    private static void images() {
        Cases.Call[] kept = Cases.then(Scenes.GAP, c -> c.keep(0));
        Cases.same("20 keep: all that 1 tells stays", kept, Scenes.GAP);
        Cases.due("20 keep: it is not to be undone", kept, c -> c.count(9), 5);
        Cases.same("20 keep: undo() undoes what was ahead of it", Cases.then(kept, c -> c.undo()), first(8, Scenes.GAP));
        Cases.same("21 back: image is as it was when undone", Cases.then(kept, c -> c.undo(), c -> c.back(0)), Scenes.GAP);
        Cases.due("21 back: what is SEEN is not in the image",
                Cases.then(Scenes.GAP, c -> c.sees(0, 0), c -> c.keep(1), c -> c.sees(0, 0), c -> c.back(1)), c -> c.count(8), 2);
        Cases.due("21 back: what is forgotten stays so",
                Cases.then(Scenes.GAP, c -> c.sees(0, 0), c -> c.keep(1), c -> c.forget(), c -> c.back(1)), c -> c.count(8), 0);
        Cases.due("21 back: nothing can be UNDONE", Cases.then(kept, c -> c.back(0)), c -> c.count(9), 0);
        Cases.due("21 back: one that is done behind it can", Cases.then(kept, c -> c.back(0), c -> c.crashes(1)), c -> c.undo(), 0);
        Cases.same("21 back: and is undone to the image",
                Cases.then(kept, c -> c.raises(), c -> c.crashes(0), c -> c.back(0), c -> c.crashes(1), c -> c.undo()), Scenes.GAP);
        // Other letters and receipts are in the places of those that the image has.
        Cases.same("21 back: others were there in between", Cases.then(Cases.then(Scenes.PAIR, c -> c.keep(0)),
                Cases.then(Cases.times(4, c -> c.undo()), OTHERS)), OTHERS_THERE);
        Cases.same("21 back: all is as the image has it", Cases.then(Cases.then(Scenes.PAIR, c -> c.keep(0)),
                Cases.then(Cases.then(Cases.times(4, c -> c.undo()), OTHERS), c -> c.back(0))), Scenes.PAIR);
        // The image has four sites; begins(4, ..) is undone, and three are there until it is brought back.
        Cases.Call[] four = Cases.scene(c -> c.begins(4, 4), c -> c.puts(3, 71), c -> c.receives(3, 4), c -> c.keep(1),
                c -> c.undo(), c -> c.undo(), c -> c.undo());
        Cases.same("21 back: ahead of it, three sites", four, Scenes.FIRST);
        Cases.same("21 back: of other N and ENOUGH", Cases.then(four, c -> c.back(1)), first(3, four));
    }

    /** (Nothing is changed.): each call that only asks, whatever it answers. */
    private static void asked() {
        Cases.Call[][] scenes = {Scenes.FIRST, Scenes.GAP, Scenes.RICH, Scenes.RICH_DOWN, Scenes.EIGHT};
        for (int i = 0; i < scenes.length; i++) {
            Cases.Call[] scene = scenes[i];
            for (int what = 0; what < 10; what++) {
                int w = what;
                String in = " nothing is changed, scene " + i + ", what " + what;
                Cases.changesNothing("8 site:" + in, scene, c -> c.site(0, w));
                Cases.changesNothing("9 receipt:" + in, scene, c -> c.receipt(0, 0, w));
                Cases.changesNothing("10 letter:" + in, scene, c -> c.letter(0, 1, 0, w));
                Cases.changesNothing("11 carries:" + in, scene, c -> c.carries(0, 1, 0, w));
                Cases.changesNothing("12 knows:" + in, scene, c -> c.knows(1, w));
                Cases.changesNothing("13 past:" + in, scene, c -> c.past(0, 0, w));
                Cases.changesNothing("14 risk:" + in, scene, c -> c.risk(w, 0));
                Cases.changesNothing("15 worst:" + in, scene, c -> c.worst(w));
                Cases.changesNothing("18 which:" + in, scene, c -> c.which(w));
                Cases.changesNothing("22 count:" + in, scene, c -> c.count(w));
            }
            Cases.changesNothing("19 ask: nothing is changed, scene " + i, scene, c -> c.ask());
        }
    }

    public static void main(String[] args) {
        Scenes.check();
        begun();
        stateOfAReceipt();
        lettersThatAreWritten();
        whatIsCarried();
        whatIsKnown();
        crashed();
        raisedWithAGap();
        raised();
        lettersFromOutsideStay();
        orphans();
        orphanOfTheLowestNumber();
        carriedNoMore();
        safe();
        pasts();
        risks();
        whichSites();
        images();
        asked();
        Cases.end("terms");
    }
}

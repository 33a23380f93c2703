/**
 * The promises one by one, with answers worked out by hand from the document: ordinary calls, the
 * edges that it names, and what it refuses, in its order.
 */
public final class PromiseTests {
    private static final int BAD = -1, STATE = -2, FULL = -3, NONE = -9;
    private static final int LOW = Integer.MIN_VALUE, HIGH = Integer.MAX_VALUE;
    private static int wrong = 0;

    private static void due(String call, int got, int want) {
        if (got != want) {
            wrong++;
            System.out.println(call + " answered " + got + ", due is " + want);
        }
    }

    /**
     * Two sites, enough is 2. Receipt 0 of site 0 (code 0; 31 + 1 + 2 + 1 = 35) writes to 1 and carries 0;
     * receipt 0 of site 1 (code 8; 62 + 35 + 0 + 1 = 98) writes to 0 and carries 8 alone, as of 0 it knows
     * both; receipt 1 of site 0 (code 1; 1085 + 98 + 1 + 1 - 997 = 188) would write to itself: nothing.
     */
    private static CarriedOrders pair() {
        CarriedOrders c = new CarriedOrders();
        due("pair: begins(2, 2)", c.begins(2, 2), 2);
        due("pair: puts(0, 1)", c.puts(0, 1), 0);
        due("pair: receives(0, 2)", c.receives(0, 2), 35);
        due("pair: receives(1, 0)", c.receives(1, 0), 98);
        due("pair: receives(0, 1)", c.receives(0, 1), 188);
        return c;
    }

    /** As pair(), but enough is 1: nothing is carried, and site 1 rests on what 0 alone holds. */
    private static CarriedOrders loose() {
        CarriedOrders c = new CarriedOrders();
        due("loose: begins(2, 1)", c.begins(2, 1), 2);
        due("loose: puts(0, 1)", c.puts(0, 1), 0);
        due("loose: receives(0, 2)", c.receives(0, 2), 35);
        due("loose: receives(1, 0)", c.receives(1, 0), 98);
        return c;
    }

    /** Four sites, enough is 3, and eight letters from outside to site 0, that are all received. */
    private static CarriedOrders full() {
        CarriedOrders c = new CarriedOrders();
        c.begins(4, 3);
        for (int k = 0; k < 8; k++) {
            due("full: puts", c.puts(0, 10), k);
        }
        // 31 * s + 10 + 4 + 1, what is left over by 997: from 1 on.
        int[] states = {46, 444, 818, 448, 942, 304, 466, 503};
        for (int k = 0; k < 8; k++) {
            due("full: receives " + k, c.receives(0, 4), states[k]);
        }
        return c;
    }

    private static void promise1() {
        CarriedOrders c = new CarriedOrders();
        int[] counts = {3, 2, 0, 0, 0, 0, 0, 0, 0, 0};
        for (int what = 0; what < 10; what++) {
            due("1: count(" + what + ")", c.count(what), counts[what]);
        }
        for (int q = 0; q < 3; q++) {
            due("1: site STATE", c.site(q, 0), q + 1);
            for (int what = 1; what < 5; what++) {
                due("1: site(" + q + ", " + what + ")", c.site(q, what), 0);
            }
        }
        due("1: site(3, 0)", c.site(3, 0), BAD);
        due("1: undo()", c.undo(), STATE);
        due("1: back(0)", c.back(0), STATE);
        due("1: back(1)", c.back(1), STATE);
        due("1: forget()", c.forget(), 0);
        due("1: raises()", c.raises(), STATE);
        due("1: letter(3, 0, 0, 0)", c.letter(3, 0, 0, 0), NONE);
        due("1: receipt(0, 0, 0)", c.receipt(0, 0, 0), BAD);
        due("1: BAD", CarriedOrders.BAD, -1);
        due("1: STATE", CarriedOrders.STATE, -2);
        due("1: FULL", CarriedOrders.FULL, -3);
        due("1: NONE", CarriedOrders.NONE, -9);
    }

    private static void promise2() {
        CarriedOrders c = pair();
        int[][] bad = {{1, 1}, {5, 1}, {2, 0}, {2, 3}, {3, 4}, {4, 5}, {LOW, 1}, {HIGH, 1}, {4, LOW}, {4, HIGH}, {0, 0}};
        c.sees(0, 1);
        c.keep(0);
        for (int[] b : bad) {
            due("2: begins(" + b[0] + ", " + b[1] + ")", c.begins(b[0], b[1]), BAD);
        }
        due("2: refused, count(0)", c.count(0), 2);
        due("2: refused, SEEN", c.count(8), 1);
        due("2: refused, image", c.back(0), 3);
        c = pair();
        c.sees(0, 1);
        c.keep(0);
        c.keep(1);
        c.crashes(1);
        due("2: begins(4, 4)", c.begins(4, 4), 4);
        int[] counts = {4, 4, 0, 0, 0, 0, 0, 0, 0, 5};
        for (int what = 0; what < 10; what++) {
            due("2: count(" + what + ")", c.count(what), counts[what]);
        }
        for (int q = 0; q < 4; q++) {
            due("2: site STATE", c.site(q, 0), q + 1);
            due("2: site HOLDS", c.site(q, 2), 0);
            due("2: knows", c.knows(q, 0), 0);
        }
        due("2: image 0 is gone", c.back(0), STATE);
        due("2: image 1 is gone", c.back(1), STATE);
        due("2: undone", c.undo(), 4);
        due("2: undone, N", c.count(0), 2);
        due("2: undone, ENOUGH", c.count(1), 2);
        due("2: undone, DOWN", c.count(5), 2);
        due("2: undone, what was SEEN stays gone", c.count(8), 0);
        due("2: undone, images stay gone", c.back(0), STATE);
        for (int n = 2; n <= 4; n++) {
            for (int enough = 1; enough <= n; enough++) {
                due("2: begins(" + n + ", " + enough + ")", c.begins(n, enough), n);
                due("2: N", c.count(0), n);
                due("2: ENOUGH", c.count(1), enough);
            }
        }
    }

    private static void promise3() {
        CarriedOrders c = new CarriedOrders();
        for (int k = 0; k < 8; k++) {
            due("3: puts(2, ..)", c.puts(2, k == 0 ? 0 : 99), k);
        }
        due("3: puts(2, 5)", c.puts(2, 5), FULL);
        due("3: BAD ahead of FULL", c.puts(2, 100), BAD);
        due("3: puts(3, 5)", c.puts(3, 5), BAD);
        due("3: puts(-1, 5)", c.puts(-1, 5), BAD);
        due("3: puts(0, -1)", c.puts(0, -1), BAD);
        due("3: puts(LOW, 0)", c.puts(LOW, 0), BAD);
        due("3: puts(HIGH, 0)", c.puts(HIGH, 0), BAD);
        due("3: puts(0, LOW)", c.puts(0, LOW), BAD);
        due("3: puts(0, HIGH)", c.puts(0, HIGH), BAD);
        due("3: LETTERS", c.count(3), 8);
        due("3: CONTENT of 0", c.letter(3, 2, 0, 0), 0);
        due("3: CONTENT of 7", c.letter(3, 2, 7, 0), 99);
        due("3: BIRTH", c.letter(3, 2, 7, 1), NONE);
        due("3: CARRIES", c.letter(3, 2, 7, 2), 0);
        due("3: another site", c.puts(0, 1), 0);
        due("3: crashes(1)", c.crashes(1), 1);
        due("3: to one that is DOWN", c.puts(1, 1), 0);
        due("3: received ones count too", c.receives(2, 3), 97);
        due("3: still full", c.puts(2, 1), FULL);
    }

    private static void promise4() {
        CarriedOrders c = pair();
        due("4: there is no such letter", c.receives(0, 2), STATE);
        int[][] bad = {{0, 0}, {1, 1}, {2, 0}, {0, 3}, {-1, 0}, {0, -1}, {LOW, 1}, {HIGH, 1}, {0, LOW}, {0, HIGH}};
        for (int[] b : bad) {
            due("4: receives(" + b[0] + ", " + b[1] + ")", c.receives(b[0], b[1]), BAD);
        }
        c.puts(1, 50);
        c.puts(1, 60);
        c.crashes(1);
        due("4: it is DOWN", c.receives(1, 2), STATE);
        due("4: BAD ahead of STATE", c.receives(1, 1), BAD);
        due("4: undo", c.undo(), 4);
        // 31 * 98 = 3038, and 50, 2, 1: 3091; less 2991: 100. It writes to 0.
        due("4: the lowest first", c.receives(1, 2), 100);
        due("4: it wrote", c.letter(1, 0, 1, 0), 0);
        due("4: it carries 8 and 9", c.letter(1, 0, 1, 2), 2);
        // 3100, 60, 2, 1: 3163; less 2991: 172.
        due("4: the next", c.receives(1, 2), 172);
        due("4: no more", c.receives(1, 2), STATE);
        c.crashes(1);
        // 31 * 188 = 5828, and 0, 1, 1: 5830; less 4985: 845, which writes to 1, that is DOWN.
        due("4: from one that is DOWN", c.receives(0, 1), 845);
        due("4: to one that is DOWN", c.letter(0, 1, 1, 0), 45);

        c = full();
        due("4: no such letter, ahead of FULL", c.receives(0, 4), STATE);
        due("4: no such letter, ahead of FULL", c.receives(0, 1), STATE);
        // Site 1: 31 * 2 + 1 + 4 + 1 = 68, which writes to 0.
        due("4: puts(1, 1)", c.puts(1, 1), 0);
        due("4: receives(1, 4)", c.receives(1, 4), 68);
        due("4: it has 8", c.receives(0, 1), FULL);
        due("4: nothing changed", c.site(0, 0), 503);
        c.crashes(0);
        due("4: DOWN ahead of FULL", c.receives(0, 1), STATE);

        // 444 and 942 leave nothing over by 3, 448 and 304 lead to 0 itself; the others write.
        c = full();
        int[][] letters = {{2, 0, 46, 0, 1}, {2, 1, 18, 2, 3}, {2, 2, 66, 6, 7}, {3, 0, 3, 7, 8}};
        for (int[] l : letters) {
            due("4: CONTENT", c.letter(0, l[0], l[1], 0), l[2]);
            due("4: BIRTH", c.letter(0, l[0], l[1], 1), l[3]);
            due("4: it carries all that there are", c.letter(0, l[0], l[1], 2), l[4]);
        }
        due("4: no other letters", c.site(0, 4), 4);
    }

    private static void promise5() {
        CarriedOrders c = pair();
        due("5: crashes(-1)", c.crashes(-1), BAD);
        due("5: crashes(2)", c.crashes(2), BAD);
        due("5: crashes(LOW)", c.crashes(LOW), BAD);
        due("5: crashes(HIGH)", c.crashes(HIGH), BAD);
        due("5: crashes(0)", c.crashes(0), 1);
        due("5: again", c.crashes(0), STATE);
        due("5: STATE of it", c.site(0, 0), NONE);
        due("5: RECEIPTS that it had", c.site(0, 1), 2);
        due("5: it HOLDS nothing", c.site(0, 2), 0);
        due("5: it is DOWN", c.site(0, 3), 1);
        due("5: it wrote", c.site(0, 4), 1);
        due("5: it KNOWS nothing", c.knows(0, 8), 0);
        due("5: others KNOW as ahead", c.knows(1, 0), 3);
        due("5: holders", c.receipt(0, 0, 3), 2);
        due("5: SAFE no more", c.receipt(0, 0, 4), 0);
        due("5: held by none", c.receipt(0, 1, 3), 0);
        due("5: its past", c.receipt(0, 1, 5), 3);
        due("5: DOWN", c.count(5), 1);
        due("5: SAFE", c.count(6), 0);
        due("5: crashes(1)", c.crashes(1), 2);
        due("5: DOWN", c.count(5), 3);
    }

    private static void promise6() {
        CarriedOrders c = pair();
        due("6: none is DOWN", c.raises(), STATE);
        c.crashes(0);
        due("6: raises()", c.raises(), 1);
        due("6: STATE behind the last that is KEPT", c.site(0, 0), 35);
        due("6: RECEIPTS", c.site(0, 1), 1);
        due("6: HOLDS what 1 held", c.site(0, 2), 2);
        due("6: KNOWS all that hold 0", c.knows(0, 0), 3);
        due("6: KNOWS all that hold 8", c.knows(0, 8), 3);
        due("6: 1 KNOWS as ahead", c.knows(1, 8), 2);
        due("6: code 1 is no more", c.knows(0, 1), 0);
        due("6: not DOWN", c.count(5), 0);
        due("6: the letter can be received anew", c.letter(1, 0, 0, 3), 0);
        due("6: it is", c.receives(0, 1), 188);
        due("6: its code is KNOWN by itself alone", c.knows(0, 1), 1);

        c = loose();
        c.crashes(0);
        due("6: an orphan loses too", c.raises(), 2);
        due("6: first STATE of 0", c.site(0, 0), 1);
        due("6: first STATE of 1", c.site(1, 0), 2);
        due("6: RECEIPTS", c.count(2), 0);
        due("6: 1 HOLDS nothing", c.site(1, 2), 0);
        due("6: letters of lost receipts are no more", c.count(3), 1);
        due("6: 0 to 1", c.letter(0, 1, 0, 0), NONE);
        due("6: 1 to 0", c.letter(1, 0, 0, 0), NONE);
        due("6: from outside", c.letter(2, 0, 0, 3), 0);
        due("6: received anew", c.receives(0, 2), 35);

        c = pair();
        c.crashes(0);
        c.crashes(1);
        due("6: all DOWN, all LOST", c.raises(), 3);
        due("6: none left", c.count(2), 0);
        due("6: letters left", c.count(3), 1);
        due("6: CARRIED", c.count(7), 0);

        c = full();
        // Site 2 takes what carries 0 (STATE 31 * 3 + 46 + 0 + 1 = 140, to 0 itself); the rest is held by 0 alone.
        due("6: receives(2, 0)", c.receives(2, 0), 140);
        c.crashes(0);
        c.crashes(3);
        due("6: all but the first", c.raises(), 7);
        due("6: letters of 0", c.site(0, 4), 1);
        due("6: letters of 2, to 0", c.letter(2, 0, 0, 1), 16);
        due("6: 2 is no orphan", c.site(2, 1), 1);
        due("6: 0 and 3 KNOW each other", c.knows(3, 0), 13);
        due("6: code 16", c.knows(0, 16), 13);
        due("6: 2 KNOWS as ahead", c.knows(2, 0), 5);
        due("6: 1, that was not DOWN, HOLDS nothing", c.site(1, 2), 0);
    }

    /**
     * Site 0, that is raised, holds code 8 without all of its past: it carries 8, which few hold, and not 24,
     * which enough hold. When all of these crash, 24 is lost, and 8 with it, though 2 holds 8; the letters that
     * carried 8 stay, as 0 and 1, by which they were written, are kept.
     */
    private static void promise6ofLettersThatStay() {
        CarriedOrders c = new CarriedOrders();
        c.begins(4, 3);
        c.puts(3, 4);
        due("6: 124 + 4 + 4 + 1, to 1", c.receives(3, 4), 133);
        due("6: 62 + 33 + 3 + 1, to none", c.receives(1, 3), 99);
        c.crashes(0);
        due("6: nothing is lost", c.raises(), 0);
        due("6: 24 is safe for 0", c.knows(0, 24), 11);
        due("6: 8 is not", c.knows(0, 8), 3);
        c.puts(0, 7);
        c.puts(0, 5);
        due("6: 31 + 7 + 4 + 1, to 3", c.receives(0, 4), 43);
        due("6: 1333 + 5 + 4 + 1 - 997, to 2", c.receives(0, 4), 346);
        due("6: 93 + 46 + 0 + 1, to 0", c.receives(2, 0), 140);
        due("6: it carries 0 and 8", c.letter(0, 3, 0, 2), 2);
        due("6: it carries 0, 1 and 8", c.letter(0, 2, 0, 2), 3);
        due("6: 2 holds 8", c.knows(2, 8), 7);
        due("6: CARRIED with 24 once, and 0, 1, 16", c.count(7), 9);
        c.crashes(0);
        c.crashes(1);
        c.crashes(3);
        due("6: 24 and 8", c.raises(), 2);
        due("6: 8 is held no more", c.knows(2, 8), 0);
        due("6: carried no more", c.letter(0, 3, 0, 2), 1);
        due("6: carried no more", c.carries(0, 3, 0, 1), NONE);
        due("6: carried no more", c.letter(0, 2, 0, 2), 2);
        due("6: CARRIED", c.count(7), 6);
        c.puts(1, 2);
        due("6: another 8", c.receives(1, 4), 69);
        due("6: a letter that carried the lost one", c.receives(3, 0), 168);
        due("6: does not tell of the other", c.knows(3, 8), 0);
        due("6: held by 1 alone", c.receipt(1, 0, 3), 2);
        due("6: 0, 1, 16 and 24", c.site(3, 2), 4);
    }

    private static void promise7() {
        CarriedOrders c = new CarriedOrders();
        due("7: none", c.undo(), STATE);
        for (int k = 0; k < 7; k++) {
            c.puts(0, k);
        }
        due("7: a refused call is none", c.puts(0, 100), BAD);
        for (int left = 4; left >= 0; left--) {
            due("7: undo()", c.undo(), left);
            due("7: letters", c.count(3), 2 + left);
        }
        due("7: older ones are lost", c.undo(), STATE);
        due("7: letters", c.count(3), 2);

        c = pair();
        c.crashes(0);
        c.raises();
        due("7: raises undone", c.undo(), 4);
        due("7: DOWN again", c.site(0, 3), 1);
        due("7: RECEIPTS again", c.site(0, 1), 2);
        due("7: crashes undone", c.undo(), 3);
        due("7: it HOLDS again", c.site(0, 2), 3);
        due("7: it KNOWS again", c.knows(0, 8), 3);
        due("7: receives undone", c.undo(), 2);
        due("7: STATE again", c.site(0, 0), 35);
        due("7: not received", c.letter(1, 0, 0, 3), 0);
        due("7: receives undone", c.undo(), 1);
        due("7: letter is no more", c.letter(1, 0, 0, 0), NONE);
        due("7: receives undone", c.undo(), 0);
        due("7: no more", c.undo(), STATE);
        due("7: done anew", c.receives(0, 2), 35);
        due("7: and undone", c.undo(), 0);

        c = pair();
        // Other receipts and letters at the same places.
        c.begins(2, 1);
        c.puts(1, 9);
        due("7: 62 + 9 + 2 + 1, to 0", c.receives(1, 2), 74);
        due("7: 31 + 74 + 1 + 1, to 1", c.receives(0, 1), 107);
        due("7: 2294 + 7 + 0 + 1 - 1994", c.receives(1, 0), 308);
        for (int left = 4; left >= 0; left--) {
            due("7: undo()", c.undo(), left);
        }
        promise9answers("7: begins is undone", c);
        promise10answers("7: begins is undone", c);
        due("7: what its letter tells is as ahead", c.knows(1, 0), 3);

        c = pair();
        c.sees(0, 2);
        c.keep(1);
        c.undo();
        due("7: what was SEEN stays", c.count(8), 1);
        due("7: images stay", c.back(1), 3);
        due("7: queries are none", c.count(9), 0);
    }

    private static void promise8() {
        CarriedOrders c = pair();
        int[][] answers = {{188, 2, 3, 0, 1}, {98, 1, 2, 0, 1}};
        for (int q = 0; q < 2; q++) {
            for (int what = 0; what < 5; what++) {
                due("8: site(" + q + ", " + what + ")", c.site(q, what), answers[q][what]);
            }
        }
        int[][] bad = {{-1, 0}, {2, 0}, {0, -1}, {0, 5}, {LOW, 0}, {HIGH, 0}, {0, LOW}, {0, HIGH}};
        for (int[] b : bad) {
            due("8: site(" + b[0] + ", " + b[1] + ")", c.site(b[0], b[1]), BAD);
        }
        c.puts(1, 0);
        due("8: letters from outside are not its own", c.site(1, 4), 1);
        c.crashes(1);
        int[] downed = {NONE, 1, 0, 1, 1};
        for (int what = 0; what < 5; what++) {
            due("8: DOWN, site(1, " + what + ")", c.site(1, what), downed[what]);
        }
    }

    private static void promise9answers(String why, CarriedOrders c) {
        int[][] answers = {{0, 0, 2, 0, 35, 3, 1, 1}, {0, 1, 1, 0, 188, 1, 0, 3}, {1, 0, 0, 0, 98, 3, 1, 2}};
        for (int[] a : answers) {
            for (int what = 0; what < 6; what++) {
                due(why + ": receipt(" + a[0] + ", " + a[1] + ", " + what + ")", c.receipt(a[0], a[1], what), a[2 + what]);
            }
        }
    }

    private static void promise9() {
        CarriedOrders c = pair();
        promise9answers("9", c);
        int[][] bad = {{0, 2, 0}, {1, 1, 0}, {2, 0, 0}, {-1, 0, 0}, {0, -1, 0}, {0, 0, -1}, {0, 0, 6}, {LOW, 0, 0},
            {HIGH, 0, 0}, {0, LOW, 0}, {0, HIGH, 0}, {0, 0, LOW}, {0, 0, HIGH}};
        for (int[] b : bad) {
            due("9: receipt(" + b[0] + ", " + b[1] + ", " + b[2] + ")", c.receipt(b[0], b[1], b[2]), BAD);
        }
        c = full();
        due("9: letter 7", c.receipt(0, 7, 1), 7);
        due("9: all of 0", c.receipt(0, 7, 5), 8);
        due("9: receipt 8", c.receipt(0, 8, 0), BAD);
        c = loose();
        due("9: SAFE by one alone", c.receipt(0, 0, 4), 1);
    }

    private static void promise10answers(String why, CarriedOrders c) {
        int[][] answers = {{2, 0, 0, 1, NONE, 0, 1}, {0, 1, 0, 35, 0, 1, 1}, {1, 0, 0, 98, 8, 1, 1}};
        for (int[] a : answers) {
            for (int what = 0; what < 4; what++) {
                due(why + ": letter(" + a[0] + ", " + a[1] + ", " + a[2] + ", " + what + ")",
                        c.letter(a[0], a[1], a[2], what), a[3 + what]);
            }
        }
    }

    private static void promise10() {
        CarriedOrders c = pair();
        promise10answers("10", c);
        c.puts(1, 7);
        due("10: CONTENT", c.letter(2, 1, 0, 0), 7);
        due("10: no RECEIPT", c.letter(2, 1, 0, 3), 0);
        due("10: not so many", c.letter(0, 1, 1, 0), NONE);
        due("10: never so many", c.letter(0, 1, 8, 0), NONE);
        due("10: never so many", c.letter(0, 1, HIGH, 3), NONE);
        int[][] bad = {{0, 0, 0, 0}, {3, 0, 0, 0}, {-1, 0, 0, 0}, {0, 2, 0, 0}, {0, -1, 0, 0}, {2, 2, 0, 0}, {0, 1, -1, 0},
            {0, 1, 0, -1}, {0, 1, 0, 4}, {0, 1, 5, 4}, {LOW, 1, 0, 0}, {HIGH, 1, 0, 0}, {0, LOW, 0, 0}, {0, HIGH, 0, 0},
            {0, 1, LOW, 0}, {0, 1, 0, LOW}, {0, 1, 0, HIGH}};
        for (int[] b : bad) {
            due("10: letter(" + b[0] + ", " + b[1] + ", " + b[2] + ", " + b[3] + ")", c.letter(b[0], b[1], b[2], b[3]), BAD);
        }
    }

    private static void promise11() {
        CarriedOrders c = pair();
        due("11: 0 to 1", c.carries(0, 1, 0, 0), 0);
        due("11: no more", c.carries(0, 1, 0, 1), NONE);
        due("11: 1 to 0", c.carries(1, 0, 0, 0), 8);
        due("11: no more", c.carries(1, 0, 0, 1), NONE);
        due("11: from outside", c.carries(2, 0, 0, 0), NONE);
        due("11: no such letter", c.carries(0, 1, 1, 0), NONE);
        due("11: no such letter", c.carries(0, 1, HIGH, 0), NONE);
        due("11: not so many", c.carries(0, 1, 0, HIGH), NONE);
        int[][] bad = {{0, 0, 0, 0}, {3, 0, 0, 0}, {-1, 0, 0, 0}, {0, 2, 0, 0}, {0, -1, 0, 0}, {0, 1, -1, 0}, {0, 1, 0, -1},
            {0, 1, 5, -1}, {LOW, 1, 0, 0}, {HIGH, 1, 0, 0}, {0, LOW, 0, 0}, {0, HIGH, 0, 0}, {0, 1, LOW, 0}, {0, 1, 0, LOW}};
        for (int[] b : bad) {
            due("11: carries(" + b[0] + ", " + b[1] + ", " + b[2] + ", " + b[3] + ")", c.carries(b[0], b[1], b[2], b[3]), BAD);
        }
        c = full();
        for (int i = 0; i < 7; i++) {
            due("11: rising", c.carries(0, 2, 2, i), i);
        }
        due("11: no more", c.carries(0, 2, 2, 7), NONE);
        c = loose();
        due("11: safe by itself alone", c.carries(0, 1, 0, 0), NONE);
    }

    private static void promise12() {
        CarriedOrders c = pair();
        int[][] answers = {{0, 0, 1}, {0, 1, 1}, {0, 8, 3}, {1, 0, 3}, {1, 8, 2}, {1, 1, 0}, {0, 2, 0}, {0, 31, 0}, {1, 16, 0}};
        for (int[] a : answers) {
            due("12: knows(" + a[0] + ", " + a[1] + ")", c.knows(a[0], a[1]), a[2]);
        }
        int[][] bad = {{-1, 0}, {2, 0}, {0, -1}, {0, 32}, {LOW, 0}, {HIGH, 0}, {0, LOW}, {0, HIGH}};
        for (int[] b : bad) {
            due("12: knows(" + b[0] + ", " + b[1] + ")", c.knows(b[0], b[1]), BAD);
        }
        // A letter tells what its writer knew when it wrote: the second of full()'s to 2 comes with 0 to 2.
        c = full();
        c.receives(2, 0);
        c.receives(2, 0);
        due("12: told of 2", c.knows(2, 2), 5);
        due("12: not told of 3", c.knows(2, 3), 0);
        due("12: itself alone", c.knows(2, 17), 4);
        due("12: 0 was not told", c.knows(0, 2), 1);
        c.begins(4, 4);
        // 31 * 4 + 0 + 4 + 1 = 129 leaves nothing over by 3; code 24. Code 31 would be the eighth.
        for (int k = 0; k < 8; k++) {
            c.puts(3, 0);
            c.receives(3, 4);
        }
        due("12: the last code", c.knows(3, 31), 8);
        due("12: held by it alone", c.receipt(3, 7, 3), 8);
    }

    private static void promise13() {
        CarriedOrders c = pair();
        int[][] pasts = {{0, 0, 0, NONE}, {1, 0, 0, 8, NONE}, {0, 1, 0, 1, 8, NONE}};
        for (int[] p : pasts) {
            for (int i = 0; i + 2 < p.length; i++) {
                due("13: past(" + p[0] + ", " + p[1] + ", " + i + ")", c.past(p[0], p[1], i), p[2 + i]);
            }
        }
        due("13: not so many", c.past(0, 0, HIGH), NONE);
        int[][] bad = {{0, 2, 0}, {1, 1, 0}, {2, 0, 0}, {-1, 0, 0}, {0, -1, 0}, {0, 0, -1}, {LOW, 0, 0}, {HIGH, 0, 0},
            {0, LOW, 0}, {0, HIGH, 0}, {0, 0, LOW}};
        for (int[] b : bad) {
            due("13: past(" + b[0] + ", " + b[1] + ", " + b[2] + ")", c.past(b[0], b[1], b[2]), BAD);
        }
        c = loose();
        due("13: what is not carried is in the past all the same", c.past(1, 0, 0), 0);
        due("13: the next", c.past(1, 0, 1), 8);
        c.crashes(0);
        due("13: of one that is DOWN too", c.past(0, 0, 0), 0);
    }

    private static void promise14() {
        CarriedOrders c = pair();
        int[] lost = {0, 1, 0, 3};
        for (int set = 0; set < 4; set++) {
            due("14: risk(" + set + ", 0)", c.risk(set, 0), lost[set]);
            due("14: risk(" + set + ", 1)", c.risk(set, 1), 0);
        }
        int[][] bad = {{-1, 0}, {4, 0}, {7, 0}, {16, 0}, {0, -1}, {0, 2}, {LOW, 0}, {HIGH, 0}, {0, LOW}, {0, HIGH}};
        for (int[] b : bad) {
            due("14: risk(" + b[0] + ", " + b[1] + ")", c.risk(b[0], b[1]), BAD);
        }
        c.crashes(0);
        due("14: what is DOWN counts", c.risk(0, 0), 1);
        due("14: DOWN in the set is no more", c.risk(1, 0), 1);
        due("14: both", c.risk(2, 0), 3);
        due("14: nothing is changed", c.count(2), 3);
        due("14: nothing is raised", c.count(5), 1);
        c = loose();
        due("14: an orphan, LOST", c.risk(1, 0), 2);
        due("14: an orphan", c.risk(1, 1), 1);
        due("14: no orphan, LOST", c.risk(2, 0), 1);
        due("14: no orphan", c.risk(2, 1), 0);
        due("14: all, no orphan", c.risk(3, 1), 0);
        c.crashes(0);
        due("14: an orphan of one that is DOWN", c.risk(0, 1), 1);
    }

    private static void promise15() {
        CarriedOrders c = pair();
        int[] worst = {0, 1, 3, NONE, NONE};
        for (int k = 0; k < 5; k++) {
            due("15: worst(" + k + ")", c.worst(k), worst[k]);
        }
        due("15: worst(-1)", c.worst(-1), BAD);
        due("15: worst(5)", c.worst(5), BAD);
        due("15: worst(LOW)", c.worst(LOW), BAD);
        due("15: worst(HIGH)", c.worst(HIGH), BAD);
        c.crashes(0);
        int[] downed = {1, 3, NONE, NONE, NONE};
        for (int k = 0; k < 5; k++) {
            due("15: one DOWN, worst(" + k + ")", c.worst(k), downed[k]);
        }
    }

    private static void promise16() {
        CarriedOrders c = pair();
        int[][] bad = {{-1, 0}, {2, 0}, {0, -1}, {0, 9}, {LOW, 0}, {HIGH, 0}, {0, LOW}, {0, HIGH}};
        for (int[] b : bad) {
            due("16: sees(" + b[0] + ", " + b[1] + ")", c.sees(b[0], b[1]), BAD);
        }
        for (int i = 1; i <= 6; i++) {
            due("16: sees", c.sees(i % 2, i == 1 ? 8 : 0), i);
        }
        due("16: FULL", c.sees(0, 0), FULL);
        due("16: BAD ahead of FULL", c.sees(0, 9), BAD);
        due("16: SEEN", c.count(8), 6);
        due("16: not to be undone", c.count(9), 5);
    }

    private static void promise17() {
        CarriedOrders c = pair();
        due("17: none", c.forget(), 0);
        c.sees(0, 5);
        c.sees(1, 5);
        due("17: which", c.which(0), 0);
        due("17: forget()", c.forget(), 2);
        due("17: forget()", c.forget(), 0);
        due("17: SEEN", c.count(8), 0);
        due("17: which", c.which(0), 3);
        due("17: sees", c.sees(0, 1), 1);
    }

    private static void promise18() {
        CarriedOrders c = pair();
        due("18: which(-1)", c.which(-1), BAD);
        due("18: which(2)", c.which(2), BAD);
        due("18: which(LOW)", c.which(LOW), BAD);
        due("18: which(HIGH)", c.which(HIGH), BAD);
        due("18: all sets but the empty one", c.which(0), 3);
        due("18: the least", c.which(1), 1);
        // By {0} they have 1 and 1, by {1} 2 and 1, by both 0 and 0.
        c.sees(1, 1);
        due("18: {0} and {1}", c.which(0), 2);
        c.sees(0, 2);
        due("18: {1}", c.which(0), 1);
        due("18: {1}", c.which(1), 2);
        c.undo();
        // Without code 1: by {0} 1 and 1, by {1} 1 and 0, by both 0 and 0.
        due("18: as all is when it is asked", c.which(0), 0);
        due("18: none", c.which(1), NONE);
        c.forget();
        c.sees(1, 0);
        due("18: {1} and both", c.which(0), 2);
        due("18: the least", c.which(1), 2);
        c.crashes(1);
        due("18: only {0} is left", c.which(0), 1);
        due("18: with 1, that is DOWN", c.which(1), 1);
        c.crashes(0);
        due("18: none that is not DOWN", c.which(0), 0);

        c.begins(4, 2);
        c.sees(3, 0);
        c.sees(2, 1);
        due("18: no such receipt", c.which(0), 0);
        c.forget();
        c.sees(3, 0);
        c.undo();
        due("18: a site that there is no more has 0", c.count(0), 2);
        due("18: SEEN", c.count(8), 1);
        due("18: none is not DOWN", c.which(0), 0);
        c.undo();
        due("18: {0}", c.which(0), 1);
        due("18: {0}", c.which(1), 1);
    }

    private static void promise19() {
        CarriedOrders c = pair();
        due("19: by 0 three of one each", c.ask(), 0);
        c.sees(1, 1);
        due("19: by 0 two of one each", c.ask(), 0);
        c.sees(0, 2);
        due("19: one alone", c.ask(), NONE);
        c.sees(0, 1);
        due("19: none", c.ask(), NONE);
        c.forget();
        c.undo();
        // By {0} 1 and 1, by {1} 1 and 0, by both 0 and 0: two alike by either.
        due("19: of several the least", c.ask(), 0);
        c.begins(3, 2);
        due("19: all alike", c.ask(), 0);
        // Site 2: 31 * 3 + 2 + 3 + 1 = 99 writes nothing: only the sets with 2 leave it none.
        c.puts(2, 2);
        due("19: receives(2, 3)", c.receives(2, 3), 99);
        due("19: by 0 seven, by 1 seven, by 2 four", c.ask(), 2);
        c.sees(2, 1);
        due("19: three are left, all alike", c.ask(), 0);
    }

    private static void promise20and21() {
        CarriedOrders c = pair();
        int[] bad = {-1, 2, LOW, HIGH};
        for (int b : bad) {
            due("20: keep(" + b + ")", c.keep(b), BAD);
            due("21: back(" + b + ")", c.back(b), BAD);
        }
        due("21: none was kept", c.back(0), STATE);
        due("20: keep(0)", c.keep(0), 3);
        due("21: none was kept", c.back(1), STATE);
        due("20: not to be undone", c.count(9), 5);
        c.crashes(0);
        due("20: RECEIPTS of one that is DOWN", c.keep(1), 3);
        c.raises();
        c.puts(1, 1);
        c.sees(0, 1);
        due("21: back(0)", c.back(0), 3);
        due("21: nothing can be UNDONE", c.count(9), 0);
        due("21: nothing can be UNDONE", c.undo(), STATE);
        due("21: what was SEEN stays", c.count(8), 1);
        due("21: DOWN", c.count(5), 0);
        due("21: letters", c.count(3), 3);
        due("21: STATE", c.site(0, 0), 188);
        due("21: KNOWS", c.knows(0, 8), 3);
        due("21: past", c.past(0, 1, 2), 8);
        due("21: back(1)", c.back(1), 3);
        due("21: DOWN", c.count(5), 1);
        due("21: again", c.back(0), 3);
        due("21: what is done then can be undone", c.puts(1, 1), 0);
        due("21: undo()", c.undo(), 0);
        c.crashes(0);
        c.raises();
        due("20: another is kept", c.keep(0), 2);
        c.undo();
        c.undo();
        due("21: the later one", c.back(0), 2);
        due("21: STATE", c.site(0, 0), 35);

        c = new CarriedOrders();
        c.begins(4, 4);
        c.puts(3, 0);
        c.keep(0);
        c.undo();
        c.undo();
        due("21: three sites", c.count(0), 3);
        due("21: image of four", c.back(0), 0);
        due("21: four sites", c.count(0), 4);
        due("21: ENOUGH", c.count(1), 4);
        due("21: its letter", c.letter(4, 3, 0, 0), 0);
    }

    private static void promise22() {
        CarriedOrders c = pair();
        c.puts(1, 1);
        c.puts(1, 2);
        c.sees(0, 0);
        int[] counts = {2, 2, 3, 5, 2, 0, 2, 2, 1, 5};
        for (int what = 0; what < 10; what++) {
            due("22: count(" + what + ")", c.count(what), counts[what]);
        }
        due("22: count(-1)", c.count(-1), BAD);
        due("22: count(10)", c.count(10), BAD);
        due("22: count(LOW)", c.count(LOW), BAD);
        due("22: count(HIGH)", c.count(HIGH), BAD);
        c.crashes(1);
        int[] downed = {2, 2, 3, 5, 2, 2, 0, 2, 1, 5};
        for (int what = 0; what < 10; what++) {
            due("22: DOWN, count(" + what + ")", c.count(what), downed[what]);
        }
        // Those of full() carry 1, 3, 7 and 8.
        due("22: CARRIED", full().count(7), 19);
    }

    public static void main(String[] args) {
        promise1();
        promise2();
        promise3();
        promise4();
        promise5();
        promise6();
        promise6ofLettersThatStay();
        promise7();
        promise8();
        promise9();
        promise10();
        promise11();
        promise12();
        promise13();
        promise14();
        promise15();
        promise16();
        promise17();
        promise18();
        promise19();
        promise20and21();
        promise22();
        System.out.println(wrong == 0 ? "all answers are as due" : wrong + " answers are not as due");
        if (wrong != 0) {
            System.exit(1);
        }
    }
}

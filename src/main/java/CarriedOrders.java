import java.util.Arrays;

/** Orders of receipt that are carried with letters until enough sites are known to hold them. */
public final class CarriedOrders {
    public static final int BAD = -1, STATE = -2, FULL = -3, NONE = -9;

    private static final int FEWEST_SITES = 2;
    private static final int MOST_SITES = 4;
    /** The most receipts of a site, and the most letters from one writer to one site. */
    private static final int MOST_EACH = 8;
    private static final int CODES = MOST_SITES * MOST_EACH;
    private static final int WAYS = (MOST_SITES + 1) * MOST_SITES;
    private static final int MOST_CONTENT = 99;
    private static final int MOST_SEEN = 6;
    private static final int IMAGES = 2;
    private static final int MOST_UNDONE = 5;

    private final World now;
    /** A ring: the place where the next one is put is nextEarlier. */
    private final World[] earlier;
    private int nextEarlier;
    private int undoable;
    private final World[] images;
    /** As bits, which images are kept. */
    private int imagesKept;
    private final int[] seenSite;
    private final int[] seenReceipts;
    private int seen;
    /** For which() and ask(), by set: the codes that would be kept by it. */
    private final int[] keptBySet;
    /** For ask(), by number of receipts: how many sets leave a site so many. */
    private final int[] tally;

    public CarriedOrders() {
        now = new World();
        earlier = new World[MOST_UNDONE];
        for (int i = 0; i < MOST_UNDONE; i++) {
            earlier[i] = new World();
        }
        images = new World[IMAGES];
        for (int i = 0; i < IMAGES; i++) {
            images[i] = new World();
        }
        seenSite = new int[MOST_SEEN];
        seenReceipts = new int[MOST_SEEN];
        keptBySet = new int[1 << MOST_SITES];
        tally = new int[MOST_EACH + 1];
    }

    // ---- what is done

    public int begins(int n, int enough) {
        if (n < FEWEST_SITES || n > MOST_SITES || enough < 1 || enough > n) {
            return BAD;
        }
        remember();
        now.start(n, enough);
        seen = 0;
        imagesKept = 0;
        return n;
    }

    public int puts(int site, int v) {
        if (!now.isSite(site) || v < 0 || v > MOST_CONTENT) {
            return BAD;
        }
        int number = now.lettersOn(now.sites, site);
        if (number >= MOST_EACH) {
            return FULL;
        }
        remember();
        now.write(now.sites, site, v, NONE, 0);
        return number;
    }

    public int receives(int site, int x) {
        if (!now.isWay(x, site)) {
            return BAD;
        }
        if (now.isDown(site) || now.takenFrom(x, site) >= now.lettersOn(x, site)) {
            return STATE;
        }
        if (now.receipts[site] >= MOST_EACH) {
            return FULL;
        }
        remember();
        now.take(x, site);
        return now.stateOf(site);
    }

    public int crashes(int site) {
        if (!now.isSite(site)) {
            return BAD;
        }
        if (now.isDown(site)) {
            return STATE;
        }
        remember();
        now.crash(site);
        return Integer.bitCount(now.down);
    }

    public int raises() {
        if (now.down == 0) {
            return STATE;
        }
        remember();
        return now.raiseAll();
    }

    public int undo() {
        if (undoable <= 0) {
            return STATE;
        }
        nextEarlier = (nextEarlier + MOST_UNDONE - 1) % MOST_UNDONE;
        now.become(earlier[nextEarlier]);
        undoable--;
        return undoable;
    }

    // ---- as it is

    public int site(int q, int what) {
        if (!now.isSite(q)) {
            return BAD;
        }
        switch (what) {
            case 0:
                return now.isDown(q) ? NONE : now.stateOf(q);
            case 1:
                return now.receipts[q];
            case 2:
                return Integer.bitCount(now.heldBy(q));
            case 3:
                return now.isDown(q) ? 1 : 0;
            case 4:
                return now.lettersBy(q);
            default:
                return BAD;
        }
    }

    public int receipt(int q, int r, int what) {
        if (!now.isReceipt(q, r)) {
            return BAD;
        }
        int code = World.codeOf(q, r);
        switch (what) {
            case 0:
                return now.from[code];
            case 1:
                return now.number[code];
            case 2:
                return now.behind[code];
            case 3:
                return now.holdersOf(code);
            case 4:
                return now.isSafe(code) ? 1 : 0;
            case 5:
                return Integer.bitCount(now.pasts[code]);
            default:
                return BAD;
        }
    }

    public int letter(int x, int y, int k, int what) {
        if (!now.isWay(x, y) || k < 0 || what < 0 || what > 3) {
            return BAD;
        }
        if (k >= now.lettersOn(x, y)) {
            return NONE;
        }
        int letter = World.letterOn(x, y, k);
        switch (what) {
            case 0:
                return now.content[letter];
            case 1:
                return now.birth[letter];
            case 2:
                return Integer.bitCount(now.carried[letter]);
            default:
                return k < now.takenFrom(x, y) ? 1 : 0;
        }
    }

    public int carries(int x, int y, int k, int i) {
        if (!now.isWay(x, y) || k < 0 || i < 0) {
            return BAD;
        }
        if (k >= now.lettersOn(x, y)) {
            return NONE;
        }
        return numberAt(now.carried[World.letterOn(x, y, k)], i);
    }

    public int knows(int site, int code) {
        if (!now.isSite(site) || code < 0 || code >= CODES) {
            return BAD;
        }
        return now.holdersKnown(site, code);
    }

    public int past(int q, int r, int i) {
        if (!now.isReceipt(q, r) || i < 0) {
            return BAD;
        }
        return numberAt(now.pasts[World.codeOf(q, r)], i);
    }

    // ---- what would be lost

    public int risk(int set, int what) {
        if (set < 0 || set > now.allSites() || what < 0 || what > 1) {
            return BAD;
        }
        int crashed = now.down | set;
        int kept = now.keptIfDown(crashed);
        return what == 0 ? now.lostBut(kept) : now.orphansBut(kept, crashed);
    }

    public int worst(int k) {
        if (k < 0 || k > MOST_SITES) {
            return BAD;
        }
        int most = NONE;
        int all = now.allSites();
        for (int set = 0; set <= all; set++) {
            if ((set & now.down) == 0 && Integer.bitCount(set) == k) {
                most = Math.max(most, now.lostBut(now.keptIfDown(now.down | set)));
            }
        }
        return most;
    }

    // ---- which sites

    public int sees(int site, int n) {
        if (!now.isSite(site) || n < 0 || n > MOST_EACH) {
            return BAD;
        }
        if (seen >= MOST_SEEN) {
            return FULL;
        }
        seenSite[seen] = site;
        seenReceipts[seen] = n;
        seen++;
        return seen;
    }

    public int forget() {
        int were = seen;
        seen = 0;
        return were;
    }

    public int which(int what) {
        if (what < 0 || what > 1) {
            return BAD;
        }
        int sets = possibleSets();
        if (what == 0) {
            return Integer.bitCount(sets);
        }
        return numberAt(sets, 0);
    }

    public int ask() {
        int sets = possibleSets();
        if (Integer.bitCount(sets) <= 1) {
            return NONE;
        }
        int best = NONE;
        int least = 0;
        for (int q = 0; q < now.sites; q++) {
            int most = mostAlike(sets, q);
            if (best == NONE || most < least) {
                best = q;
                least = most;
            }
        }
        return best;
    }

    // ---- images

    public int keep(int image) {
        if (image < 0 || image >= IMAGES) {
            return BAD;
        }
        images[image].become(now);
        imagesKept |= 1 << image;
        return now.allReceipts();
    }

    public int back(int image) {
        if (image < 0 || image >= IMAGES) {
            return BAD;
        }
        if ((imagesKept >> image & 1) == 0) {
            return STATE;
        }
        now.become(images[image]);
        undoable = 0;
        return now.allReceipts();
    }

    public int count(int what) {
        switch (what) {
            case 0:
                return now.sites;
            case 1:
                return now.enough;
            case 2:
                return now.allReceipts();
            case 3:
                return now.allLetters();
            case 4:
                // Each receipt is of a letter of its own that is still there.
                return now.allLetters() - now.allReceipts();
            case 5:
                return now.down;
            case 6:
                return now.safeReceipts();
            case 7:
                return now.allCarried();
            case 8:
                return seen;
            case 9:
                return undoable;
            default:
                return BAD;
        }
    }

    /** To be called ahead of each change that can be undone. */
    private void remember() {
        earlier[nextEarlier].become(now);
        nextEarlier = (nextEarlier + 1) % MOST_UNDONE;
        undoable = Math.min(undoable + 1, MOST_UNDONE);
    }

    /** As bits, each numbered by a set: the sets by which all that was seen would be so. */
    private int possibleSets() {
        int sets = 0;
        int all = now.allSites();
        for (int set = 1; set <= all; set++) {
            if ((set & now.down) == 0) {
                keptBySet[set] = now.keptIfDown(now.down | set);
                sets |= agreesWithSeen(keptBySet[set]) ? 1 << set : 0;
            }
        }
        return sets;
    }

    private boolean agreesWithSeen(int kept) {
        for (int i = 0; i < seen; i++) {
            // A site that is no more has no codes among the kept, and so 0 receipts.
            if (World.receiptsIn(kept, seenSite[i]) != seenReceipts[i]) {
                return false;
            }
        }
        return true;
    }

    /** The greatest number of the sets, just found possible, that leave a site equally many receipts. */
    private int mostAlike(int sets, int q) {
        Arrays.fill(tally, 0);
        int most = 0;
        int all = now.allSites();
        for (int set = 1; set <= all; set++) {
            if ((sets >> set & 1) != 0) {
                int left = World.receiptsIn(keptBySet[set], q);
                tally[left]++;
                most = Math.max(most, tally[left]);
            }
        }
        return most;
    }

    /** The i-th number, rising, whose bit is set; NONE: not so many. */
    private static int numberAt(int bits, int i) {
        int ahead = 0;
        for (int number = 0; number < CODES; number++) {
            if ((bits >>> number & 1) != 0) {
                if (ahead == i) {
                    return number;
                }
                ahead++;
            }
        }
        return NONE;
    }

    /**
     * Sites, receipts, letters, and what is held and known: what is undone and kept in images.
     * Sets of sites and sets of codes are held as bits.
     */
    private static final class World {
        private static final int FIRST_SITES = 3;
        private static final int FIRST_ENOUGH = 2;

        int sites;
        int enough;
        int down;

        /** By site: how many. */
        final int[] receipts = new int[MOST_SITES];

        /** Of receipts, by code. */
        final int[] from = new int[CODES];
        final int[] number = new int[CODES];
        final int[] behind = new int[CODES];
        final int[] pasts = new int[CODES];

        /** By way, from whom to whom: how many letters. */
        final int[] written = new int[WAYS];

        /** Of letters, by the place that letterOn() tells. */
        final int[] content = new int[WAYS * MOST_EACH];
        final int[] birth = new int[WAYS * MOST_EACH];
        final int[] carried = new int[WAYS * MOST_EACH];

        /** By letter and site: the codes of which the letter tells that the site holds them. */
        final int[] told = new int[WAYS * MOST_EACH * MOST_SITES];

        /**
         * By site p and site s: the codes that p holds and of which it knows that s holds them.
         * As p knows itself among the holders, those of p and p are all that p holds.
         */
        final int[] known = new int[MOST_SITES * MOST_SITES];

        World() {
            start(FIRST_SITES, FIRST_ENOUGH);
        }

        void start(int newSites, int newEnough) {
            sites = newSites;
            enough = newEnough;
            down = 0;
            Arrays.fill(receipts, 0);
            Arrays.fill(written, 0);
            Arrays.fill(known, 0);
        }

        void become(World other) {
            sites = other.sites;
            enough = other.enough;
            down = other.down;
            System.arraycopy(other.receipts, 0, receipts, 0, MOST_SITES);
            System.arraycopy(other.from, 0, from, 0, CODES);
            System.arraycopy(other.number, 0, number, 0, CODES);
            System.arraycopy(other.behind, 0, behind, 0, CODES);
            System.arraycopy(other.pasts, 0, pasts, 0, CODES);
            System.arraycopy(other.written, 0, written, 0, WAYS);
            System.arraycopy(other.content, 0, content, 0, WAYS * MOST_EACH);
            System.arraycopy(other.birth, 0, birth, 0, WAYS * MOST_EACH);
            System.arraycopy(other.carried, 0, carried, 0, WAYS * MOST_EACH);
            System.arraycopy(other.told, 0, told, 0, WAYS * MOST_EACH * MOST_SITES);
            System.arraycopy(other.known, 0, known, 0, MOST_SITES * MOST_SITES);
        }

        // ---- numbers

        static int codeOf(int q, int r) {
            return q * MOST_EACH + r;
        }

        static int codesOf(int q) {
            return 0xFF << q * MOST_EACH;
        }

        static int receiptsIn(int codes, int q) {
            return Integer.bitCount(codes & codesOf(q));
        }

        static int wayOf(int x, int y) {
            return x * MOST_SITES + y;
        }

        static int letterOn(int x, int y, int k) {
            return wayOf(x, y) * MOST_EACH + k;
        }

        boolean isSite(int q) {
            return q >= 0 && q < sites;
        }

        boolean isWay(int x, int y) {
            return x >= 0 && x <= sites && isSite(y) && x != y;
        }

        boolean isReceipt(int q, int r) {
            return isSite(q) && r >= 0 && r < receipts[q];
        }

        boolean isDown(int q) {
            return (down >> q & 1) != 0;
        }

        int allSites() {
            return (1 << sites) - 1;
        }

        // ---- what there is

        int stateOf(int q) {
            return receipts[q] == 0 ? q + 1 : behind[codeOf(q, receipts[q] - 1)];
        }

        int allReceipts() {
            int all = 0;
            for (int q = 0; q < sites; q++) {
                all += receipts[q];
            }
            return all;
        }

        int lettersOn(int x, int y) {
            return written[wayOf(x, y)];
        }

        int lettersBy(int x) {
            int all = 0;
            for (int y = 0; y < sites; y++) {
                all += lettersOn(x, y);
            }
            return all;
        }

        int allLetters() {
            int all = 0;
            for (int x = 0; x <= sites; x++) {
                all += lettersBy(x);
            }
            return all;
        }

        int allCarried() {
            int all = 0;
            for (int x = 0; x < sites; x++) {
                for (int y = 0; y < sites; y++) {
                    all += carriedOn(x, y);
                }
            }
            return all;
        }

        int carriedOn(int x, int y) {
            int all = 0;
            int letters = lettersOn(x, y);
            for (int k = 0; k < letters; k++) {
                all += Integer.bitCount(carried[letterOn(x, y, k)]);
            }
            return all;
        }

        /** How many letters from x site y has received; they are the first ones. */
        int takenFrom(int x, int y) {
            int taken = 0;
            for (int r = 0; r < receipts[y]; r++) {
                if (from[codeOf(y, r)] == x) {
                    taken++;
                }
            }
            return taken;
        }

        int heldBy(int p) {
            return known[p * MOST_SITES + p];
        }

        int holdersOf(int code) {
            int holders = 0;
            for (int p = 0; p < sites; p++) {
                holders |= (heldBy(p) >>> code & 1) << p;
            }
            return holders;
        }

        int holdersKnown(int p, int code) {
            int holders = 0;
            for (int s = 0; s < sites; s++) {
                holders |= (known[p * MOST_SITES + s] >>> code & 1) << s;
            }
            return holders;
        }

        boolean isSafe(int code) {
            return Integer.bitCount(holdersOf(code)) >= enough;
        }

        int safeReceipts() {
            int safe = 0;
            for (int q = 0; q < sites; q++) {
                for (int r = 0; r < receipts[q]; r++) {
                    if (isSafe(codeOf(q, r))) {
                        safe++;
                    }
                }
            }
            return safe;
        }

        /** The codes that a letter of p must carry on: too few sites are known to hold them. */
        int unsafeFor(int p) {
            int codes = 0;
            for (int code = 0; code < CODES; code++) {
                if ((heldBy(p) >>> code & 1) != 0
                        && Integer.bitCount(holdersKnown(p, code)) < enough) {
                    codes |= 1 << code;
                }
            }
            return codes;
        }

        // ---- letters written and received

        /** The caller has seen to it that there is room for one more letter. */
        void write(int x, int y, int newContent, int newBirth, int codes) {
            int letter = letterOn(x, y, lettersOn(x, y));
            content[letter] = newContent;
            birth[letter] = newBirth;
            carried[letter] = codes;
            for (int s = 0; s < MOST_SITES; s++) {
                // Outside knows nothing.
                told[letter * MOST_SITES + s] = isSite(x) ? known[x * MOST_SITES + s] & codes : 0;
            }
            written[wayOf(x, y)]++;
        }

        /** The caller has seen to it that there is such a letter, and room for its receipt. */
        void take(int x, int y) {
            int k = takenFrom(x, y);
            int letter = letterOn(x, y, k);
            int code = codeOf(y, receipts[y]);
            from[code] = x;
            number[code] = k;
            behind[code] = (31 * stateOf(y) + content[letter] + x + 1) % 997;
            pasts[code] = 1 << code | pastAhead(y) | pastOfBirth(letter);
            receipts[y]++;
            learn(y, code, letter);
            answer(y, code);
        }

        int pastAhead(int y) {
            return receipts[y] == 0 ? 0 : pasts[codeOf(y, receipts[y] - 1)];
        }

        int pastOfBirth(int letter) {
            return birth[letter] < 0 ? 0 : pasts[birth[letter]];
        }

        void learn(int y, int code, int letter) {
            for (int s = 0; s < sites; s++) {
                known[y * MOST_SITES + s] |= told[letter * MOST_SITES + s];
            }
            known[y * MOST_SITES + y] |= 1 << code | carried[letter];
        }

        /** The letter that y may write by its receipt of that code. */
        void answer(int y, int code) {
            int state = behind[code];
            int z = sites > 0 ? state % sites : y;
            if (state % 3 != 0 && z != y && lettersOn(y, z) < MOST_EACH) {
                write(y, z, state % 100, code, unsafeFor(y));
            }
        }

        // ---- crashed and raised

        void crash(int q) {
            down |= 1 << q;
            for (int s = 0; s < MOST_SITES; s++) {
                known[q * MOST_SITES + s] = 0;
            }
        }

        /**
         * The codes of the receipts that are kept when all are raised, were these sites down.
         * As a past has all that a receipt rests on, it is kept when nothing in its past is gone.
         */
        int keptIfDown(int crashed) {
            int there = 0;
            for (int p = 0; p < sites; p++) {
                if ((crashed >> p & 1) == 0) {
                    there |= codesOf(p) | heldBy(p);
                }
            }
            int kept = 0;
            for (int q = 0; q < sites; q++) {
                for (int r = 0; r < receipts[q]; r++) {
                    int code = codeOf(q, r);
                    if ((pasts[code] & ~there) == 0) {
                        kept |= 1 << code;
                    }
                }
            }
            return kept;
        }

        int lostBut(int kept) {
            return allReceipts() - Integer.bitCount(kept);
        }

        int orphansBut(int kept, int crashed) {
            int orphans = 0;
            for (int q = 0; q < sites; q++) {
                if ((crashed >> q & 1) == 0 && receiptsIn(kept, q) < receipts[q]) {
                    orphans++;
                }
            }
            return orphans;
        }

        int raiseAll() {
            int kept = keptIfDown(down);
            int lost = lostBut(kept);
            for (int q = 0; q < sites; q++) {
                receipts[q] = receiptsIn(kept, q);
                for (int y = 0; y < sites; y++) {
                    keepLettersOn(q, y, kept);
                }
            }
            for (int i = 0; i < MOST_SITES * MOST_SITES; i++) {
                known[i] &= kept;
            }
            tellTheRaised();
            down = 0;
            return lost;
        }

        /** Letters by lost receipts are the last ones of their way, as these receipts are. */
        void keepLettersOn(int x, int y, int kept) {
            int left = 0;
            int letters = lettersOn(x, y);
            for (int k = 0; k < letters; k++) {
                int letter = letterOn(x, y, k);
                if ((kept >>> birth[letter] & 1) != 0) {
                    left++;
                }
                carried[letter] &= kept;
                for (int s = 0; s < MOST_SITES; s++) {
                    told[letter * MOST_SITES + s] &= kept;
                }
            }
            written[wayOf(x, y)] = left;
        }

        /** All that are raised hold the same then, so their rows need not be filled ahead. */
        void learnAll(int p, int held) {
            for (int s = 0; s < sites; s++) {
                known[p * MOST_SITES + s] = isDown(s) ? held : heldBy(s);
            }
        }

        /** Those that are down hold nothing yet, so what is held now is what the others hold. */
        void tellTheRaised() {
            int held = 0;
            for (int p = 0; p < sites; p++) {
                held |= heldBy(p);
            }
            for (int p = 0; p < sites; p++) {
                if (isDown(p)) {
                    learnAll(p, held);
                }
            }
        }
    }
}

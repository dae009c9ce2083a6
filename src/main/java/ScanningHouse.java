import java.util.Arrays;

/**
 * Scanning House: books are scanned page by page before they crumble; what was scanned is kept in
 * vaults, mended, put in order, read and served. The document ../shared/DOC.md tells every call.
 */
public final class ScanningHouse {

    /** There is none; it is not known. */
    public static final int NONE = -1;

    private static final int BOOKS = 6;
    private static final int MOST_PAGES = 12;
    private static final int NARROWEST_OPENING = 60;
    private static final int WIDEST_OPENING = 180;
    private static final int MOST_STRENGTH = 60;
    private static final int GREATEST_WISH = 9;
    private static final int FIRST_DEATH = 1500;
    private static final int LAST_DEATH = 3000;

    private static final int NARROWEST_ANGLE = 30;
    private static final int WIDEST_ANGLE = 180;
    private static final int WIDEST_CHEAP_ANGLE = 90;
    private static final int GREATEST_SHARP_DRIFT = 5;

    private static final int VAULTS = 4;
    private static final int LAST_BIT = 63;

    private static final int LAST_WORD = 99;
    private static final int MOST_ORDERED_PAGES = 7;
    private static final int ROWS_OF_ORDERED_PAGES = 5040;

    private static final int PLACES = 4;
    private static final int LETTERS = 26;
    private static final int KEYERS = 5;
    private static final int UNPROVEN_TRUST = 50;
    private static final int PAY_DIVISOR = 10;

    private static final int FIRST_YEAR = 2000;
    private static final int LAST_YEAR = 4000;
    private static final int MOST_YEARS_PASSING = 100;
    private static final int LANDS = 4;
    private static final int FIRST_TERM = 70;
    private static final int LONGEST_TERM = 120;

    private static final int SERVED = 0;
    private static final int NOT_SHOT = 1;
    private static final int TAKEN_DOWN = 2;
    private static final int DEATH_UNKNOWN = 3;
    private static final int WITHIN_TERM = 4;
    private static final int PAGE_LOST = 5;

    private static final int ABOUT_STRENGTH = 0;
    private static final int ABOUT_SHOT_PAGES = 1;
    private static final int ABOUT_FAULTY_SHOTS = 2;
    private static final int ABOUT_LOST_PAGES = 3;
    private static final int ABOUT_DEATH = 4;
    private static final int ABOUT_SHOTS_TAKEN = 5;

    private final Book[] books = new Book[BOOKS];
    private int bookCount;
    private int drift;

    private final boolean[] burnt = new boolean[VAULTS];
    private final ProofTrees trees = new ProofTrees();
    private final PageRow row = new PageRow();
    private final LetterScale scale = new LetterScale();

    private int year = FIRST_YEAR;
    private final int[] terms = new int[LANDS];

    /** Promise 1: begins in the year 2000, without books. */
    public ScanningHouse() {
        Arrays.fill(terms, FIRST_TERM);
    }

    // ---- books, shots

    /** Promise 2: tells a book; returns its number. */
    public int book(int pages, int opening, int strength, int wish, int death)
            throws IllegalArgumentException, IllegalStateException {
        needArgument(pages, 1, MOST_PAGES);
        needArgument(opening, NARROWEST_OPENING, WIDEST_OPENING);
        needArgument(strength, 1, MOST_STRENGTH);
        needArgument(wish, 0, GREATEST_WISH);
        if (death != NONE) {
            needArgument(death, FIRST_DEATH, LAST_DEATH);
        }
        int number = bookCount;
        if (number < 0 || number >= BOOKS) {
            throw new IllegalStateException("there are as many books as there may be");
        }
        books[number] = new Book(pages, opening, strength, wish, death);
        bookCount = number + 1;
        return number;
    }

    /** Promise 3: the book that is next in the order of work, or NONE. */
    public int next() {
        int best = NONE;
        Book bestBook = null;
        for (int number = 0; number < BOOKS; number++) {
            Book candidate = books[number];
            if (candidate != null && candidate.waitsForWork()
                    && (bestBook == null || candidate.goesBefore(bestBook))) {
                best = number;
                bestBook = candidate;
            }
        }
        return best;
    }

    /** Promise 4: takes a shot of a page; returns the strength of the book then. */
    public int shot(int book, int page, int angle, long image)
            throws IndexOutOfBoundsException, IllegalArgumentException, IllegalStateException {
        Book of = bookAt(book);
        Page seen = pageAt(of, page);
        needArgument(angle, NARROWEST_ANGLE, WIDEST_ANGLE);
        int cost = angle > WIDEST_CHEAP_ANGLE ? 2 : 1;
        if (angle > of.opening) {
            throw new IllegalStateException("the book does not open as wide as that");
        }
        if (of.strength < cost) {
            throw new IllegalStateException("the book has less strength than the shot costs");
        }
        if (seen.hasShot && !seen.faulty) {
            throw new IllegalStateException("there is a shot that is not faulty");
        }
        of.strength -= cost;
        of.shotsTaken++;
        seen.takeShot(image, drift > GREATEST_SHARP_DRIFT);
        drift++;
        for (int vault = 0; vault < VAULTS; vault++) {
            if (!burnt[vault]) {
                seen.putCopy(vault, image);
            }
        }
        return of.strength;
    }

    /** Promise 5: looks at the shot of a page; returns whether it is blurred. */
    public boolean look(int book, int page) throws IndexOutOfBoundsException, IllegalStateException {
        Page seen = pageAt(bookAt(book), page);
        if (!seen.hasShot) {
            throw new IllegalStateException("there is no shot of the page");
        }
        if (seen.blurred) {
            seen.faulty = true;
        }
        return seen.blurred;
    }

    /** Promise 6: sets the lens right; returns the drift before. */
    public int calibrate() {
        int before = drift;
        drift = 0;
        return before;
    }

    // ---- vaults

    /** Promise 7: lets a bit of a copy rot; returns whether the copy holds then. */
    public boolean rot(int vault, int book, int page, int bit)
            throws IndexOutOfBoundsException, IllegalArgumentException, IllegalStateException {
        needVault(vault);
        Page rotten = pageAt(bookAt(book), page);
        needArgument(bit, 0, LAST_BIT);
        needCopy(rotten, vault);
        rotten.flipBit(vault, bit);
        return rotten.holdsIn(vault);
    }

    /** Promise 8: lets a vault burn; returns how many copies it had. */
    public int burn(int vault) throws IndexOutOfBoundsException, IllegalStateException {
        needStandingVault(vault);
        int copies = 0;
        for (Book each : books) {
            if (each != null) {
                copies += each.dropCopies(vault);
            }
        }
        burnt[vault] = true;
        return copies;
    }

    /** Promise 9: builds a burnt vault anew. */
    public void build(int vault) throws IndexOutOfBoundsException, IllegalStateException {
        needVault(vault);
        if (!burnt[vault]) {
            throw new IllegalStateException("the vault is not burnt");
        }
        burnt[vault] = false;
    }

    /** Promise 10: checks a vault for a book; returns the leaves that are unlike, by bits. */
    public int check(int vault, int book) throws IndexOutOfBoundsException {
        needVault(vault);
        Book of = bookAt(book);
        trees.plant(of.pages, vault);
        return trees.findUnlikeLeaves();
    }

    /** Promise 11: at how many places the last check looked; 0 if there was none. */
    public int looked() {
        return trees.placesLookedAt;
    }

    /** Promise 12: mends a vault for a book; returns how many copies came. */
    public int mend(int vault, int book) throws IndexOutOfBoundsException, IllegalStateException {
        Book of = bookAt(book);
        needStandingVault(vault);
        int came = 0;
        for (Page each : of.pages) {
            if (each.mendIn(vault)) {
                came++;
            }
        }
        return came;
    }

    /** Promise 13: a copy. */
    public long copy(int vault, int book, int page) throws IndexOutOfBoundsException, IllegalStateException {
        needVault(vault);
        Page wanted = pageAt(bookAt(book), page);
        needCopy(wanted, vault);
        return wanted.copies[vault];
    }

    /** Promise 14: whether a page is lost. */
    public boolean isLost(int book, int page) throws IndexOutOfBoundsException {
        return pageAt(bookAt(book), page).hasNoCopyLeft();
    }

    // ---- order of pages

    /** Promise 15: tells the first word and the catchword of a page. */
    public void words(int book, int page, int first, int catchword)
            throws IndexOutOfBoundsException, IllegalArgumentException {
        Page told = pageAt(bookAt(book), page);
        needArgument(first, 0, LAST_WORD);
        needArgument(catchword, 0, LAST_WORD);
        told.firstWord = first;
        told.catchword = catchword;
    }

    /** Promise 16: the page at a place of the order of a book, found step by step. */
    public int order(int book, int place) throws IndexOutOfBoundsException, IllegalStateException {
        Book of = bookToOrder(book, place);
        return row.findStepByStep(of.pages) ? row.pageAtPlace(place) : NONE;
    }

    /** Promise 17: the same, found by all rows. */
    public int orderAnew(int book, int place) throws IndexOutOfBoundsException, IllegalStateException {
        Book of = bookToOrder(book, place);
        return row.findByAllRows(of.pages) ? row.pageAtPlace(place) : NONE;
    }

    // ---- letters

    /** Promise 18: tells the letter of a place; returns the one told before, or NONE. */
    public int gold(int book, int page, int place, int letter)
            throws IndexOutOfBoundsException, IllegalArgumentException {
        Page told = pageAt(bookAt(book), page);
        needPlace(place);
        needArgument(letter, 0, LETTERS - 1);
        int before = told.gold[place];
        told.gold[place] = letter;
        return before;
    }

    /** Promise 19: lets a keyer key a letter; returns what they keyed there before, or NONE. */
    public int key(int keyer, int book, int page, int place, int letter)
            throws IndexOutOfBoundsException, IllegalArgumentException {
        needKeyer(keyer);
        Page keyed = pageAt(bookAt(book), page);
        needPlace(place);
        needArgument(letter, 0, LETTERS - 1);
        int before = keyed.keyed[keyer][place];
        keyed.keyed[keyer][place] = letter;
        return before;
    }

    /** Promise 20: the trust of a keyer. */
    public int trust(int keyer) throws IndexOutOfBoundsException {
        needKeyer(keyer);
        return trustIn(keyer);
    }

    /** Promise 21: the pay of a keyer. */
    public int pay(int keyer) throws IndexOutOfBoundsException {
        needKeyer(keyer);
        int places = 0;
        for (Book each : books) {
            if (each != null) {
                places += each.placesKeyedBy(keyer);
            }
        }
        return places * trustIn(keyer) / PAY_DIVISOR;
    }

    /** Promise 22: what is read at a place, or NONE. */
    public int read(int book, int page, int place) throws IndexOutOfBoundsException {
        Page of = pageAt(bookAt(book), page);
        needPlace(place);
        if (of.gold[place] != NONE) {
            return of.gold[place];
        }
        weighLetters(of, place);
        return scale.heaviestLetter();
    }

    /** Promise 23: the doubt at a place. */
    public int doubt(int book, int page, int place) throws IndexOutOfBoundsException {
        Page of = pageAt(bookAt(book), page);
        needPlace(place);
        if (of.gold[place] != NONE) {
            return 0;
        }
        weighLetters(of, place);
        return scale.doubtInHeaviest();
    }

    // ---- rights

    /** Promise 24: lets years go by; returns the year. */
    public int pass(int years) throws IllegalArgumentException, IllegalStateException {
        needArgument(years, 1, MOST_YEARS_PASSING);
        if (year + years > LAST_YEAR) {
            throw new IllegalStateException("the year would be above the last one");
        }
        year += years;
        return year;
    }

    /** Promise 25: tells the term of a land; returns the term before. */
    public int term(int land, int years) throws IndexOutOfBoundsException, IllegalArgumentException {
        needLand(land);
        needArgument(years, 0, LONGEST_TERM);
        int before = terms[land];
        terms[land] = years;
        return before;
    }

    /** Promise 26: tells the year in which the author of a book died. */
    public void died(int book, int year)
            throws IndexOutOfBoundsException, IllegalArgumentException, IllegalStateException {
        Book of = bookAt(book);
        needArgument(year, FIRST_DEATH, LAST_DEATH);
        if (of.death != NONE) {
            throw new IllegalStateException("the year of the death is known");
        }
        of.death = year;
    }

    /** Promise 27: lets a book be searched; returns whether it was already. */
    public boolean search(int book) throws IndexOutOfBoundsException {
        Book of = bookAt(book);
        boolean before = of.searched;
        of.searched = true;
        return before;
    }

    /** Promise 28: takes a book down, or brings it back; returns whether it was taken down. */
    public boolean takeDown(int book, boolean is) throws IndexOutOfBoundsException {
        Book of = bookAt(book);
        boolean before = of.takenDown;
        of.takenDown = is;
        return before;
    }

    /** Promise 29: why a page is not served in a land; 0 if it is served. */
    public int whyNot(int book, int page, int land) throws IndexOutOfBoundsException {
        Book of = bookAt(book);
        Page wanted = pageAt(of, page);
        needLand(land);
        if (!wanted.hasShot) {
            return NOT_SHOT;
        }
        if (of.takenDown) {
            return TAKEN_DOWN;
        }
        if (of.death == NONE && !of.searched) {
            return DEATH_UNKNOWN;
        }
        if (of.death != NONE && year <= of.death + terms[land]) {
            return WITHIN_TERM;
        }
        return wanted.hasNoCopyLeft() ? PAGE_LOST : SERVED;
    }

    /** Promise 30: tells of a book. */
    public int about(int book, int what) throws IndexOutOfBoundsException, IllegalArgumentException {
        Book of = bookAt(book);
        needArgument(what, ABOUT_STRENGTH, ABOUT_SHOTS_TAKEN);
        switch (what) {
            case ABOUT_SHOT_PAGES:
                return of.countShotPages();
            case ABOUT_FAULTY_SHOTS:
                return of.countFaultyShots();
            case ABOUT_LOST_PAGES:
                return of.countLostPages();
            case ABOUT_DEATH:
                return of.death;
            case ABOUT_SHOTS_TAKEN:
                return of.shotsTaken;
            default:
                return of.strength;
        }
    }

    // ---- what the calls need of their arguments

    private static void needArgument(int value, int least, int greatest) {
        if (value < least || value > greatest) {
            throw new IllegalArgumentException("an argument is out of its range");
        }
    }

    private Book bookAt(int number) {
        Book found = number < 0 || number >= BOOKS ? null : books[number];
        if (found == null) {
            throw new IndexOutOfBoundsException("there is no such book");
        }
        return found;
    }

    private static Page pageAt(Book of, int number) {
        if (number < 0 || number >= of.pages.length) {
            throw new IndexOutOfBoundsException("there is no such page");
        }
        return of.pages[number];
    }

    private static void needVault(int vault) {
        if (vault < 0 || vault >= VAULTS) {
            throw new IndexOutOfBoundsException("there is no such vault");
        }
    }

    private void needStandingVault(int vault) {
        needVault(vault);
        if (burnt[vault]) {
            throw new IllegalStateException("the vault is burnt");
        }
    }

    private static void needCopy(Page of, int vault) {
        if (!of.hasCopy[vault]) {
            throw new IllegalStateException("the vault has no copy of the page");
        }
    }

    private static void needPlace(int place) {
        if (place < 0 || place >= PLACES) {
            throw new IndexOutOfBoundsException("there is no such place");
        }
    }

    private static void needKeyer(int keyer) {
        if (keyer < 0 || keyer >= KEYERS) {
            throw new IndexOutOfBoundsException("there is no such keyer");
        }
    }

    private static void needLand(int land) {
        if (land < 0 || land >= LANDS) {
            throw new IndexOutOfBoundsException("there is no such land");
        }
    }

    private Book bookToOrder(int book, int place) {
        Book of = bookAt(book);
        if (place < 0 || place >= of.pages.length) {
            throw new IndexOutOfBoundsException("there is no such place in the order");
        }
        if (of.pages.length > MOST_ORDERED_PAGES) {
            throw new IllegalStateException("the book has too many pages to be put in order");
        }
        return of;
    }

    // ---- trust and weights

    private int trustIn(int keyer) {
        int keyedGold = 0;
        int keyedRight = 0;
        for (Book each : books) {
            if (each != null) {
                keyedGold += each.goldKeyedBy(keyer);
                keyedRight += each.goldKeyedRightBy(keyer);
            }
        }
        return keyedGold == 0 ? UNPROVEN_TRUST : 100 * keyedRight / keyedGold;
    }

    private void weighLetters(Page of, int place) {
        scale.clear();
        for (int keyer = 0; keyer < KEYERS; keyer++) {
            int letter = of.keyed[keyer][place];
            if (letter != NONE) {
                scale.put(letter, trustIn(keyer));
            }
        }
    }

    /** What is known of a book. */
    static final class Book {
        final Page[] pages;
        final int opening;
        final int wish;
        int strength;
        int death;
        int shotsTaken;
        boolean searched;
        boolean takenDown;

        Book(int pageCount, int opening, int strength, int wish, int death) {
            this.pages = new Page[pageCount];
            for (int page = 0; page < pageCount; page++) {
                pages[page] = new Page();
            }
            this.opening = opening;
            this.strength = strength;
            this.wish = wish;
            this.death = death;
        }

        boolean waitsForWork() {
            return strength > 0 && countShotPages() < pages.length;
        }

        /** False for two that are alike, so that the lower of them stays before the higher one. */
        boolean goesBefore(Book other) {
            return wish > other.wish || wish == other.wish && strength < other.strength;
        }

        int countShotPages() {
            int count = 0;
            for (Page each : pages) {
                count += each.hasShot ? 1 : 0;
            }
            return count;
        }

        int countFaultyShots() {
            int count = 0;
            for (Page each : pages) {
                count += each.faulty ? 1 : 0;
            }
            return count;
        }

        int countLostPages() {
            int count = 0;
            for (Page each : pages) {
                count += each.hasNoCopyLeft() ? 1 : 0;
            }
            return count;
        }

        int dropCopies(int vault) {
            int dropped = 0;
            for (Page each : pages) {
                dropped += each.hasCopy[vault] ? 1 : 0;
                each.hasCopy[vault] = false;
            }
            return dropped;
        }

        int placesKeyedBy(int keyer) {
            int count = 0;
            for (Page each : pages) {
                for (int place = 0; place < PLACES; place++) {
                    count += each.keyed[keyer][place] != NONE ? 1 : 0;
                }
            }
            return count;
        }

        int goldKeyedBy(int keyer) {
            int count = 0;
            for (Page each : pages) {
                for (int place = 0; place < PLACES; place++) {
                    boolean both = each.gold[place] != NONE && each.keyed[keyer][place] != NONE;
                    count += both ? 1 : 0;
                }
            }
            return count;
        }

        int goldKeyedRightBy(int keyer) {
            int count = 0;
            for (Page each : pages) {
                for (int place = 0; place < PLACES; place++) {
                    boolean right = each.gold[place] != NONE && each.gold[place] == each.keyed[keyer][place];
                    count += right ? 1 : 0;
                }
            }
            return count;
        }
    }

    /** A page: its shot, its copies by vaults, its words, and its letters by places. */
    static final class Page {
        private static final long PROOF_FACTOR = 6364136223846793005L;
        private static final long PROOF_ADDEND = 1442695040888963407L;

        boolean hasShot;
        boolean blurred;
        boolean faulty;
        private long image;

        final boolean[] hasCopy = new boolean[VAULTS];
        final long[] copies = new long[VAULTS];

        int firstWord;
        int catchword;

        final int[] gold = new int[PLACES];
        final int[][] keyed = new int[KEYERS][PLACES];

        Page() {
            Arrays.fill(gold, NONE);
            for (int keyer = 0; keyer < KEYERS; keyer++) {
                Arrays.fill(keyed[keyer], NONE);
            }
        }

        void takeShot(long newImage, boolean isBlurred) {
            hasShot = true;
            blurred = isBlurred;
            faulty = false;
            image = newImage;
        }

        void putCopy(int vault, long value) {
            hasCopy[vault] = true;
            copies[vault] = value;
        }

        void flipBit(int vault, int bit) {
            copies[vault] ^= 1L << bit;
        }

        long imageProof() {
            return hasShot ? proofOf(image) : 0L;
        }

        long copyProof(int vault) {
            return hasCopy[vault] ? proofOf(copies[vault]) : 0L;
        }

        /** Looks for the copy too, as a proof may be 0, which copyProof gives for none. */
        boolean holdsIn(int vault) {
            return hasShot && hasCopy[vault] && copyProof(vault) == imageProof();
        }

        boolean hasNoCopyLeft() {
            return hasShot && lowestVaultThatHolds() == NONE;
        }

        boolean mendIn(int vault) {
            if (!hasShot || holdsIn(vault)) {
                return false;
            }
            int from = lowestVaultThatHolds();
            if (from == NONE) {
                return false;
            }
            putCopy(vault, copies[from]);
            return true;
        }

        private int lowestVaultThatHolds() {
            for (int vault = 0; vault < VAULTS; vault++) {
                if (holdsIn(vault)) {
                    return vault;
                }
            }
            return NONE;
        }

        private static long proofOf(long x) {
            return x * PROOF_FACTOR + PROOF_ADDEND;
        }
    }

    /**
     * The tree of a book and the tree of a vault for it. The top is node 1, and below node n are the
     * nodes 2n and 2n + 1, so that the parent is found by halving; node 0 is not used.
     */
    static final class ProofTrees {
        private static final int TOP = 1;
        private static final int FIRST_LEAF = 16;
        private static final int NODES = 32;

        private final long[] ofBook = new long[NODES];
        private final long[] ofVault = new long[NODES];
        private final boolean[] foundUnlike = new boolean[NODES];
        int placesLookedAt;

        void plant(Page[] pages, int vault) {
            for (int leaf = 0; leaf < NODES - FIRST_LEAF; leaf++) {
                boolean isPage = leaf < pages.length;
                ofBook[FIRST_LEAF + leaf] = isPage ? pages[leaf].imageProof() : 0L;
                ofVault[FIRST_LEAF + leaf] = isPage ? pages[leaf].copyProof(vault) : 0L;
            }
            joinUpwards(ofBook);
            joinUpwards(ofVault);
        }

        private static void joinUpwards(long[] tree) {
            for (int node = FIRST_LEAF - 1; node >= TOP; node--) {
                tree[node] = 31L * tree[2 * node] + tree[2 * node + 1];
            }
        }

        /** Goes down from the top, as unlike leaves below nodes that are alike by chance are not told. */
        int findUnlikeLeaves() {
            int leaves = 0;
            int places = 0;
            for (int node = TOP; node < NODES; node++) {
                boolean isLookedAt = node == TOP || foundUnlike[node / 2];
                foundUnlike[node] = isLookedAt && ofBook[node] != ofVault[node];
                places += isLookedAt ? 1 : 0;
                if (foundUnlike[node] && node >= FIRST_LEAF) {
                    leaves |= 1 << (node - FIRST_LEAF);
                }
            }
            placesLookedAt = places;
            return leaves;
        }
    }

    /** The row in which pages are put in order; one row serves all calls. */
    static final class PageRow {
        private final int[] row = new int[MOST_ORDERED_PAGES];

        int pageAtPlace(int place) {
            return place < 0 || place >= row.length ? NONE : row[place];
        }

        boolean findStepByStep(Page[] pages) {
            return fillFrom(0, 0, pages, row);
        }

        /** Puts the lowest page that leads on to the end; usedPages has the bits of those in the row. */
        private static boolean fillFrom(int place, int usedPages, Page[] pages, int[] row) {
            if (place >= pages.length) {
                return true;
            }
            if (place >= row.length) {
                return false;
            }
            for (int page = 0; page < pages.length; page++) {
                boolean isFree = (usedPages >> page & 1) == 0;
                if (isFree && (place == 0 || leadsTo(pages, row[place - 1], page))) {
                    row[place] = page;
                    if (fillFrom(place + 1, usedPages | 1 << page, pages, row)) {
                        return true;
                    }
                }
            }
            return false;
        }

        /** Goes through the rows from the lowest on, so that the first order found is the lowest. */
        boolean findByAllRows(Page[] pages) {
            int count = pages.length;
            if (count > row.length) {
                return false;
            }
            for (int place = 0; place < count; place++) {
                row[place] = place;
            }
            for (int tried = 0; tried < ROWS_OF_ORDERED_PAGES; tried++) {
                if (isOrderOf(pages)) {
                    return true;
                }
                if (!stepToNextRow(count)) {
                    return false;
                }
            }
            return false;
        }

        private boolean isOrderOf(Page[] pages) {
            for (int place = 1; place < pages.length; place++) {
                if (!leadsTo(pages, row[place - 1], row[place])) {
                    return false;
                }
            }
            return true;
        }

        private static boolean leadsTo(Page[] pages, int former, int latter) {
            if (former < 0 || former >= pages.length || latter < 0 || latter >= pages.length) {
                return false;
            }
            return pages[former].catchword == pages[latter].firstWord;
        }

        private boolean stepToNextRow(int count) {
            int rising = count - 2;
            while (rising >= 0 && row[rising] > row[rising + 1]) {
                rising--;
            }
            if (rising < 0) {
                return false;
            }
            int nextHigher = count - 1;
            while (nextHigher > rising && row[nextHigher] < row[rising]) {
                nextHigher--;
            }
            swap(rising, nextHigher);
            for (int low = rising + 1, high = count - 1; low < high; low++, high--) {
                swap(low, high);
            }
            return true;
        }

        private void swap(int place, int other) {
            int page = row[place];
            row[place] = row[other];
            row[other] = page;
        }
    }

    /** Weighs the letters that were keyed at a place; one scale serves all calls. */
    static final class LetterScale {
        private final int[] weights = new int[LETTERS];
        private int keyedLetters;

        void clear() {
            Arrays.fill(weights, 0);
            keyedLetters = 0;
        }

        void put(int letter, int weight) {
            if (letter >= 0 && letter < LETTERS) {
                weights[letter] += weight;
                keyedLetters |= 1 << letter;
            }
        }

        /** A letter may be keyed and still weigh 0: so what was keyed is known by bits of its own. */
        int heaviestLetter() {
            int heaviest = NONE;
            int greatest = -1;
            for (int letter = 0; letter < LETTERS; letter++) {
                boolean isKeyed = (keyedLetters >> letter & 1) != 0;
                if (isKeyed && weights[letter] > greatest) {
                    heaviest = letter;
                    greatest = weights[letter];
                }
            }
            return heaviest;
        }

        int doubtInHeaviest() {
            int greatest = 0;
            int together = 0;
            for (int weight : weights) {
                greatest = Math.max(greatest, weight);
                together += weight;
            }
            return together == 0 ? 100 : 100 - 100 * greatest / together;
        }
    }
}

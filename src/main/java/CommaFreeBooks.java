/**
 * Books of words without commas: words of one length over few letters, books in which no word
 * hides across two others, rings, greatest books, swaps, a strip of letters, texts, plans, lists.
 *
 * <p>Every row is made in a constructor and used again, so no call makes an object.
 */
public final class CommaFreeBooks {
    public static final int NONE = -1, BAD = -2, STATE = -3, FULL = -4, NOT = -5;
    public static final long NO = Long.MIN_VALUE;

    private static final int NOTHING = -11, BEYOND = -13, BELOW = -14;
    private static final int FAULT = -100;
    private static final int MOST_SIZE = 256;
    private static final int MOST_LENGTH = 5;
    private static final int SMALL_SIZE = 32;
    private static final int MOST_DRAWN = 12;
    private static final int MOST_SEEDS = 30;
    private static final int BLANK = 32;
    private static final int FIRST_LETTER = 97;

    private final Desk now;
    private final Desk kept;
    private boolean imageTaken;
    private final Book thought;
    private final Greatest greatest;
    private final Tape tape;
    private final Paper sheet;
    private final Lists lists;

    public CommaFreeBooks() {
        now = new Desk();
        kept = new Desk();
        imageTaken = false;
        thought = new Book(now.alphabet);
        greatest = new Greatest(now.alphabet, thought);
        tape = new Tape();
        sheet = new Paper();
        lists = new Lists();
    }

    // ---- words

    public int size(int q, int n) {
        if (!Alphabet.canBe(q, n)) {
            return BAD;
        }
        now.beginAnew(q, n);
        return now.alphabet.size;
    }

    public int add(int word) {
        if (!now.alphabet.isWord(word)) {
            return NONE;
        }
        return now.book.include(word) ? now.book.total() : STATE;
    }

    public int drop(int word) {
        if (!now.alphabet.isWord(word)) {
            return NONE;
        }
        return now.book.exclude(word) ? now.book.total() : STATE;
    }

    public int clear() {
        int were = now.book.total();
        now.book.empty();
        return were;
    }

    public int word(int i) {
        return now.book.has(i) ? now.book.nth(i) : NOT;
    }

    public int letter(int word, int i) {
        Alphabet alphabet = now.alphabet;
        if (!alphabet.isWord(word) || i < 0 || i >= alphabet.length) {
            return NONE;
        }
        return alphabet.part(word, i, 1);
    }

    public int hides(int u, int v, int w) {
        Alphabet alphabet = now.alphabet;
        if (!alphabet.isWord(u) || !alphabet.isWord(v) || !alphabet.isWord(w)) {
            return NONE;
        }
        int bits = 0;
        for (int k = 1; k < alphabet.length; k++) {
            if (alphabet.across(u, v, k) == w) {
                bits |= 1 << k;
            }
        }
        return bits;
    }

    public int clash(int what) {
        if (what < 0 || what > 3) {
            return NONE;
        }
        return now.book.isFree() ? NOT : now.book.firstClash(what);
    }

    public int may(int word) {
        if (!now.alphabet.isWord(word)) {
            return NONE;
        }
        return now.book.allows(word) ? 1 : 0;
    }

    public int mays(int i) {
        int many = 0;
        // No word may come into a book that is not free, so that only free books are gone through.
        int end = now.book.isFree() ? now.alphabet.size : 0;
        for (int w = 0; w < end; w++) {
            if (now.book.allows(w)) {
                if (many == i) {
                    return w;
                }
                many++;
            }
        }
        return i == -1 ? many : NOT;
    }

    // ---- rings, greatest books

    public int ring(int word, int what) {
        Alphabet alphabet = now.alphabet;
        if (!alphabet.isWord(word)) {
            return NONE;
        }
        switch (what) {
            case 0:
                return alphabet.ringSize(word);
            case 1:
                return alphabet.ringLeast(word);
            case 2:
                return alphabet.isWhole(word) ? alphabet.wholeRingsBelow(alphabet.ringLeast(word)) : NOT;
            case 3:
                return alphabet.turned(word);
            default:
                return NONE;
        }
    }

    public int bound(int i) {
        if (i == -1) {
            return now.alphabet.wholeRingsBelow(now.alphabet.size);
        }
        return now.alphabet.wholeRing(i);
    }

    public int great(int i, int k) {
        if (now.alphabet.size > SMALL_SIZE) {
            return STATE;
        }
        greatest.find();
        switch (i) {
            case -1:
                return greatest.books();
            case -2:
                return greatest.wordsEach();
            case -3:
                return greatest.kinds();
            default:
                return greatest.wordOf(i, k);
        }
    }

    // ---- swaps

    public int swapped(int swap, int word) {
        Alphabet alphabet = now.alphabet;
        if (!alphabet.isSwap(swap) || !alphabet.isWord(word)) {
            return NONE;
        }
        return alphabet.exchanged(swap, word);
    }

    public int swap(int swap) {
        if (!now.alphabet.isSwap(swap)) {
            return NONE;
        }
        now.book.exchange(swap);
        return now.book.total();
    }

    public int keeps(int i) {
        int many = 0;
        int end = now.alphabet.swaps();
        for (int s = 0; s < end; s++) {
            if (now.book.isKeptBy(s)) {
                if (many == i) {
                    return s;
                }
                many++;
            }
        }
        return i == -1 ? many : NOT;
    }

    // ---- the strip

    public int cast(int letter) {
        if (letter < 0 || letter >= now.alphabet.letters) {
            return BAD;
        }
        if (now.strip.room() < 1) {
            return FULL;
        }
        now.strip.append(letter);
        return now.strip.total();
    }

    public int spell(int word) {
        Alphabet alphabet = now.alphabet;
        if (!alphabet.isWord(word)) {
            return NONE;
        }
        if (now.strip.room() < alphabet.length) {
            return FULL;
        }
        for (int i = 0; i < alphabet.length; i++) {
            now.strip.append(alphabet.part(word, i, 1));
        }
        return now.strip.total();
    }

    public int tear(int v) {
        if (v < 0 || v > now.strip.total()) {
            return BAD;
        }
        now.strip.cutAhead(v);
        return now.strip.total();
    }

    public int possible(int k) {
        if (k < 0 || k > now.strip.total()) {
            return BAD;
        }
        now.strip.measure(now.book);
        return now.strip.offsets(k);
    }

    public int certain(int what) {
        if (what < 0 || what > 1) {
            return NONE;
        }
        now.strip.measure(now.book);
        return now.strip.firstCertain(what);
    }

    public int delay() {
        return now.alphabet.size > SMALL_SIZE ? STATE : Doubt.ends(now.book);
    }

    // ---- draws, plans

    public long odds(int v, int seed, int m, int part) {
        if (v < 1 || v > MOST_DRAWN || m < 1 || m > MOST_SEEDS || part < 0 || part > 1) {
            return NO;
        }
        int free = 0;
        for (int t = 0; t < m; t++) {
            thought.draw(v, seed + t);
            if (thought.isFree()) {
                free++;
            }
        }
        int common = Rows.commonDivisor(free, m);
        return Rows.over(part == 0 ? free : m, common);
    }

    public int plan(int what, int v) {
        if (what == -1) {
            now.plan.empty();
            return 0;
        }
        if (what < 0 || what > 3) {
            return NONE;
        }
        int end = what == Plan.SWAPS ? Plan.MOST_SWAPS : MOST_SIZE;
        if (v < 0 || v >= end) {
            return BAD;
        }
        return now.plan.append(what, v) ? now.plan.total() : FULL;
    }

    public int behind(int what) {
        if (what < 0 || what > 2) {
            return NONE;
        }
        thought.copyFrom(now.book);
        now.plan.doneTo(thought);
        if (what == 0) {
            return thought.total();
        }
        if (what == 1) {
            return thought.isFree() ? 1 : 0;
        }
        return thought.has(0) ? thought.nth(0) : NOT;
    }

    // ---- texts

    public int feed(int letter) {
        if (letter < 1 || letter > 127) {
            return BAD;
        }
        return tape.append(letter) ? tape.total() : FULL;
    }

    public int book() {
        int fault = tape.readInto(thought);
        if (fault >= 0) {
            return FAULT - fault;
        }
        now.book.copyFrom(thought);
        return now.book.total();
    }

    public int why(int i) {
        return tape.reason(i);
    }

    public int write() {
        sheet.become(now.book);
        return sheet.total();
    }

    public int paper(int i) {
        return sheet.byteAt(i);
    }

    // ---- lists, the image

    public int judge(int list) {
        if (!Lists.isList(list)) {
            return NONE;
        }
        int length = lists.length(list);
        if (length < 0) {
            return NOTHING;
        }
        for (int i = 0; i < length; i++) {
            int due = now.book.has(i) ? now.book.nth(i) : -1;
            if (lists.at(list, i) != due) {
                return i;
            }
        }
        return NOT;
    }

    public int list(int list, int n) {
        if (!Lists.isList(list)) {
            return NONE;
        }
        if (n > Lists.MOST) {
            return BAD;
        }
        if (n < 0) {
            return BELOW;
        }
        lists.become(list, n);
        return 1;
    }

    public int put(int list, int i, int v) {
        if (!Lists.isList(list)) {
            return NONE;
        }
        int length = lists.length(list);
        if (length < 0) {
            return NOTHING;
        }
        if (i < 0 || i >= length) {
            return BEYOND;
        }
        lists.set(list, i, v);
        return 1;
    }

    public long get(int list, int i) {
        if (!Lists.isList(list) || i < 0 || i >= lists.length(list)) {
            return NO;
        }
        return lists.at(list, i);
    }

    public int image() {
        kept.copyFrom(now);
        imageTaken = true;
        return now.book.total();
    }

    public int undo() {
        if (!imageTaken) {
            return STATE;
        }
        now.copyFrom(kept);
        return now.book.total();
    }

    public int count(int what) {
        switch (what) {
            case 0:
                return now.alphabet.letters;
            case 1:
                return now.alphabet.length;
            case 2:
                return now.alphabet.size;
            case 3:
                return now.book.total();
            case 4:
                return now.strip.total();
            case 5:
                return tape.total();
            case 6:
                return sheet.total();
            case 7:
                return now.plan.total();
            case 8:
                return now.alphabet.swaps();
            default:
                return BAD;
        }
    }

    /** Places of rows and divisors, each looked at before it is used, so that nothing can throw. */
    private static final class Rows {
        static int at(int[] row, int i) {
            return i >= 0 && i < row.length ? row[i] : 0;
        }

        static void set(int[] row, int i, int v) {
            if (i >= 0 && i < row.length) {
                row[i] = v;
            }
        }

        static void fill(int[] row, int v) {
            for (int i = 0; i < row.length; i++) {
                row[i] = v;
            }
        }

        static void copy(int[] from, int[] to) {
            for (int i = 0; i < from.length && i < to.length; i++) {
                to[i] = from[i];
            }
        }

        static int over(int above, int below) {
            return below > 0 ? above / below : 0;
        }

        static int rest(int above, int below) {
            return below > 0 ? above % below : 0;
        }

        /** Of two numbers of which at least one is above 0; of 0 and m it is m, which makes 0 by m 0 by 1. */
        static int commonDivisor(int a, int b) {
            for (int d = Math.max(a, b); d > 1; d--) {
                if (rest(a, d) == 0 && rest(b, d) == 0) {
                    return d;
                }
            }
            return 1;
        }
    }

    /** The letters and the length of words; words are told as numbers. */
    private static final class Alphabet {
        /**
         * The orders of 4 letters. The first orders leave the front letters where they are, so that
         * the orders of 2 and of 3 letters stand here too, as what becomes of the last 2 or 3.
         */
        private static final int[] ORDERS = {
            0, 1, 2, 3, 0, 1, 3, 2, 0, 2, 1, 3, 0, 2, 3, 1, 0, 3, 1, 2, 0, 3, 2, 1,
            1, 0, 2, 3, 1, 0, 3, 2, 1, 2, 0, 3, 1, 2, 3, 0, 1, 3, 0, 2, 1, 3, 2, 0,
            2, 0, 1, 3, 2, 0, 3, 1, 2, 1, 0, 3, 2, 1, 3, 0, 2, 3, 0, 1, 2, 3, 1, 0,
            3, 0, 1, 2, 3, 0, 2, 1, 3, 1, 0, 2, 3, 1, 2, 0, 3, 2, 0, 1, 3, 2, 1, 0
        };
        private static final int LEAST_LETTERS = 2;
        private static final int MOST_LETTERS = 4;

        private final int[] powers;
        private int letters;
        private int length;
        private int size;

        Alphabet() {
            powers = new int[MOST_LENGTH + 1];
            become(2, 3);
        }

        static boolean canBe(int q, int n) {
            if (q < LEAST_LETTERS || q > MOST_LETTERS || n < 1 || n > MOST_LENGTH) {
                return false;
            }
            int all = 1;
            for (int i = 0; i < n; i++) {
                all *= q;
            }
            return all <= MOST_SIZE;
        }

        void become(int q, int n) {
            letters = q;
            length = n;
            int power = 1;
            for (int i = 0; i < powers.length; i++) {
                powers[i] = power;
                power *= q;
            }
            size = power(n);
        }

        int power(int k) {
            return k >= 0 && k < powers.length ? powers[k] : 1;
        }

        boolean isWord(int w) {
            return w >= 0 && w < size;
        }

        /** The first k letters of a word. */
        int opening(int w, int k) {
            return Rows.over(w, power(length - k));
        }

        /** The last k letters of a word. */
        int ending(int w, int k) {
            return Rows.rest(w, power(k));
        }

        /** So many letters of a word, of which the last stands at the place told. */
        int part(int w, int last, int many) {
            return Rows.rest(Rows.over(w, power(length - 1 - last)), power(many));
        }

        /** What stands from place k on in two words written one behind the other. */
        int across(int u, int v, int k) {
            return ending(u, length - k) * power(k) + opening(v, k);
        }

        int turned(int w) {
            int first = power(length - 1);
            return Rows.rest(w, first) * letters + Rows.over(w, first);
        }

        int ringSize(int w) {
            int t = turned(w);
            int many = 1;
            while (t != w && many < length) {
                t = turned(t);
                many++;
            }
            return many;
        }

        int ringLeast(int w) {
            int least = w;
            int t = w;
            for (int i = 1; i < length; i++) {
                t = turned(t);
                least = Math.min(least, t);
            }
            return least;
        }

        boolean isWhole(int w) {
            return ringSize(w) == length;
        }

        /** How many whole rings have a least word below the number told. */
        int wholeRingsBelow(int end) {
            int many = 0;
            for (int w = 0; w < end && w < size; w++) {
                if (ringLeast(w) == w && isWhole(w)) {
                    many++;
                }
            }
            return many;
        }

        /** The least word of a whole ring; NOT if there is no such ring. */
        int wholeRing(int ring) {
            int many = 0;
            for (int w = 0; w < size; w++) {
                if (ringLeast(w) == w && isWhole(w)) {
                    if (many == ring) {
                        return w;
                    }
                    many++;
                }
            }
            return NOT;
        }

        int swaps() {
            int many = 2;
            for (int i = 2; i <= letters; i++) {
                many *= i;
            }
            return many;
        }

        boolean isSwap(int swap) {
            return swap >= 0 && swap < swaps();
        }

        int exchanged(int swap, int w) {
            int front = MOST_LETTERS - letters;
            int row = MOST_LETTERS * (swap >> 1) + front;
            boolean mirrored = (swap & 1) == 1;
            int result = 0;
            for (int i = 0; i < length; i++) {
                int letter = part(w, mirrored ? length - 1 - i : i, 1);
                result = result * letters + Rows.at(ORDERS, row + letter) - front;
            }
            return result;
        }
    }

    /** Unlike words, rising, with what is needed to see fast whether a word hides in two of them. */
    private static final class Book {
        /** 3 letters and length 5 need most: places below twice 3 to the power of 4. */
        private static final int MARKS = 162;

        private final Alphabet alphabet;
        private final int[] words;
        private final boolean[] held;
        private final int[] images;
        /** How many words open (end) with some k letters: at the k-th power plus their number. */
        private final int[] openings;
        private final int[] endings;
        private int many;

        Book(Alphabet alphabet) {
            this.alphabet = alphabet;
            words = new int[MOST_SIZE];
            held = new boolean[MOST_SIZE];
            images = new int[MOST_SIZE];
            openings = new int[MARKS];
            endings = new int[MARKS];
            many = 0;
        }

        int total() {
            return many;
        }

        boolean has(int i) {
            return i >= 0 && i < many;
        }

        int nth(int i) {
            return Rows.at(words, i);
        }

        boolean holds(int w) {
            return w >= 0 && w < held.length && held[w];
        }

        private void hold(int w, boolean is) {
            if (w >= 0 && w < held.length) {
                held[w] = is;
            }
        }

        void empty() {
            for (int i = 0; i < many; i++) {
                hold(nth(i), false);
            }
            many = 0;
            Rows.fill(openings, 0);
            Rows.fill(endings, 0);
        }

        void copyFrom(Book other) {
            many = other.many;
            Rows.copy(other.words, words);
            Rows.copy(other.openings, openings);
            Rows.copy(other.endings, endings);
            for (int w = 0; w < held.length; w++) {
                held[w] = other.holds(w);
            }
        }

        /** Whether the word has come now; not if it was there, or is none. */
        boolean include(int w) {
            if (!alphabet.isWord(w) || holds(w) || many >= words.length) {
                return false;
            }
            int i = many;
            while (i > 0 && nth(i - 1) > w) {
                Rows.set(words, i, nth(i - 1));
                i--;
            }
            Rows.set(words, i, w);
            many++;
            hold(w, true);
            mark(w, 1);
            return true;
        }

        /** Whether the word has gone now; not if it was not there. */
        boolean exclude(int w) {
            if (!holds(w)) {
                return false;
            }
            int stays = 0;
            for (int i = 0; i < many; i++) {
                if (nth(i) != w) {
                    Rows.set(words, stays, nth(i));
                    stays++;
                }
            }
            many = stays;
            hold(w, false);
            mark(w, -1);
            return true;
        }

        private void mark(int w, int by) {
            for (int k = 1; k < alphabet.length; k++) {
                int base = alphabet.power(k);
                int opening = base + alphabet.opening(w, k);
                int ending = base + alphabet.ending(w, k);
                Rows.set(openings, opening, Rows.at(openings, opening) + by);
                Rows.set(endings, ending, Rows.at(endings, ending) + by);
            }
        }

        /** Whether a word hides in two that are marked: its front ends one, its back opens one. */
        private boolean isHidden(int w) {
            for (int k = 1; k < alphabet.length; k++) {
                int ahead = alphabet.length - k;
                int front = alphabet.power(ahead) + alphabet.opening(w, ahead);
                int back = alphabet.power(k) + alphabet.ending(w, k);
                if (Rows.at(endings, front) > 0 && Rows.at(openings, back) > 0) {
                    return true;
                }
            }
            return false;
        }

        boolean isFree() {
            for (int i = 0; i < many; i++) {
                if (isHidden(nth(i))) {
                    return false;
                }
            }
            return true;
        }

        boolean allows(int w) {
            if (!alphabet.isWord(w) || holds(w)) {
                return false;
            }
            mark(w, 1);
            boolean free = !isHidden(w) && isFree();
            mark(w, -1);
            return free;
        }

        /** Of the first clash 0 u, 1 v, 2 k, 3 the hidden word; NOT if there is none. */
        int firstClash(int what) {
            for (int i = 0; i < many; i++) {
                for (int j = 0; j < many; j++) {
                    int k = firstHiding(nth(i), nth(j));
                    if (k > 0) {
                        switch (what) {
                            case 0:
                                return nth(i);
                            case 1:
                                return nth(j);
                            case 2:
                                return k;
                            default:
                                return alphabet.across(nth(i), nth(j), k);
                        }
                    }
                }
            }
            return NOT;
        }

        /** The first place at which a word of the book hides in two; 0 if none does. */
        private int firstHiding(int u, int v) {
            for (int k = 1; k < alphabet.length; k++) {
                if (holds(alphabet.across(u, v, k))) {
                    return k;
                }
            }
            return 0;
        }

        void exchange(int swap) {
            int were = many;
            for (int i = 0; i < were && i < images.length; i++) {
                images[i] = alphabet.exchanged(swap, nth(i));
            }
            empty();
            for (int i = 0; i < were && i < images.length; i++) {
                include(images[i]);
            }
        }

        /** A swap makes unlike words of unlike ones, so it keeps the book if all of them are there. */
        boolean isKeptBy(int swap) {
            for (int i = 0; i < many; i++) {
                if (!holds(alphabet.exchanged(swap, nth(i)))) {
                    return false;
                }
            }
            return true;
        }

        /** Whether a word has these letters, so many, of which the last stands at the place told. */
        boolean fits(int letters, int length, int last) {
            int behind = alphabet.power(alphabet.length - 1 - last);
            int span = alphabet.power(length);
            for (int i = 0; i < many; i++) {
                if (Rows.rest(Rows.over(nth(i), behind), span) == letters) {
                    return true;
                }
            }
            return false;
        }

        /** Becomes the book that a seed draws. */
        void draw(int v, int seed) {
            empty();
            int z = seed;
            for (int i = 0; i < v; i++) {
                z = z * 1103515245 + 12345;
                include(Rows.rest(z >>> 16, alphabet.size));
            }
        }
    }

    /** A row of letters, and how far each offset is possible for it. */
    private static final class Strip {
        private static final int MOST = 40;

        private final Alphabet alphabet;
        private final int[] row;
        private final int[] reaches;
        private int many;

        Strip(Alphabet alphabet) {
            this.alphabet = alphabet;
            row = new int[MOST];
            reaches = new int[MOST_LENGTH];
            many = 0;
        }

        int total() {
            return many;
        }

        int room() {
            return MOST - many;
        }

        void empty() {
            many = 0;
        }

        void copyFrom(Strip other) {
            many = other.many;
            Rows.copy(other.row, row);
        }

        void append(int letter) {
            if (room() > 0) {
                Rows.set(row, many, letter);
                many++;
            }
        }

        void cutAhead(int v) {
            int stay = many - v;
            if (v < 0 || stay < 0) {
                return;
            }
            for (int i = 0; i < stay; i++) {
                Rows.set(row, i, Rows.at(row, v + i));
            }
            many = stay;
        }

        /**
         * What is possible for a row is possible for each shorter beginning of it, so that one
         * number for each offset tells all: for how many letters it is possible.
         */
        void measure(Book book) {
            for (int r = 0; r < alphabet.length; r++) {
                Rows.set(reaches, r, reach(book, r));
            }
        }

        private int reach(Book book, int offset) {
            int place = offset == 0 ? 0 : alphabet.length - offset;
            int letters = 0;
            int held = 0;
            for (int j = 0; j < many; j++) {
                letters = letters * alphabet.letters + Rows.at(row, j);
                held++;
                if (!book.fits(letters, held, place)) {
                    return j;
                }
                place++;
                if (place == alphabet.length) {
                    place = 0;
                    letters = 0;
                    held = 0;
                }
            }
            return many;
        }

        /** The offsets possible for the first k letters, as last measured. */
        int offsets(int k) {
            int bits = 0;
            for (int r = 0; r < alphabet.length; r++) {
                if (Rows.at(reaches, r) >= k) {
                    bits |= 1 << r;
                }
            }
            return bits;
        }

        /** When just one offset is possible, as last measured: 0 for how many letters, 1 which. */
        int firstCertain(int what) {
            for (int k = 1; k <= many; k++) {
                int bits = offsets(k);
                for (int r = 0; r < alphabet.length; r++) {
                    if (bits == 1 << r) {
                        return what == 0 ? k : r;
                    }
                }
            }
            return NOT;
        }
    }

    /** How long two offsets can both be possible for a row of letters. */
    private static final class Doubt {
        private static final int MOST = 12;

        /** The least k such that no row of k letters leaves two offsets; NOT if none is small enough. */
        static int ends(Book book) {
            int least = 1;
            for (int r = 0; r < book.alphabet.length; r++) {
                for (int s = r + 1; s < book.alphabet.length && least <= MOST; s++) {
                    least = Math.max(least, endsFor(book, r, s));
                }
            }
            return least > MOST ? NOT : least;
        }

        /**
         * A stretch ends with the latest letter and is no longer than a word, so of all rows that
         * leave both offsets only their latest letters need be kept, one fewer than a word has.
         */
        private static int endsFor(Book book, int r, int s) {
            int tails = 1;
            for (int j = 0; j < MOST; j++) {
                tails = tailsBehind(book, tails, j, r, s);
                if (tails == 0) {
                    return j + 1;
                }
            }
            return MOST + 1;
        }

        /** The latest letters (bits) when letter j has come behind each of those told. */
        private static int tailsBehind(Book book, int tails, int j, int r, int s) {
            Alphabet alphabet = book.alphabet;
            int longest = alphabet.length - 1;
            int end = alphabet.power(Math.min(j, longest));
            int span = alphabet.power(Math.min(j + 1, longest));
            int next = 0;
            for (int tail = 0; tail < end; tail++) {
                if ((tails >>> tail & 1) == 0) {
                    continue;
                }
                for (int c = 0; c < alphabet.letters; c++) {
                    int row = tail * alphabet.letters + c;
                    if (stands(book, row, j, r) && stands(book, row, j, s)) {
                        next |= 1 << Rows.rest(row, span);
                    }
                }
            }
            return next;
        }

        /** Whether the stretch that ends with letter j, the last of the row, is of a word. */
        private static boolean stands(Book book, int row, int j, int offset) {
            Alphabet alphabet = book.alphabet;
            int place = Rows.rest(j - offset + alphabet.length, alphabet.length);
            int held = Math.min(place, j) + 1;
            return book.fits(Rows.rest(row, alphabet.power(held)), held, place);
        }
    }

    /** Rows told by hand, done to a book in thought. */
    private static final class Plan {
        private static final int MOST = 8;
        private static final int MOST_SWAPS = 48;
        private static final int COMES = 0;
        private static final int GOES = 1;
        private static final int SWAPS = 2;

        private final Alphabet alphabet;
        private final int[] kinds;
        private final int[] values;
        private int many;

        Plan(Alphabet alphabet) {
            this.alphabet = alphabet;
            kinds = new int[MOST];
            values = new int[MOST];
            many = 0;
        }

        int total() {
            return many;
        }

        void empty() {
            many = 0;
        }

        void copyFrom(Plan other) {
            many = other.many;
            Rows.copy(other.kinds, kinds);
            Rows.copy(other.values, values);
        }

        boolean append(int kind, int value) {
            if (many >= MOST) {
                return false;
            }
            Rows.set(kinds, many, kind);
            Rows.set(values, many, value);
            many++;
            return true;
        }

        void doneTo(Book book) {
            for (int i = 0; i < many; i++) {
                doRow(book, Rows.at(kinds, i), Rows.at(values, i));
            }
        }

        private void doRow(Book book, int kind, int v) {
            if (kind == COMES) {
                book.include(v);
            } else if (kind == GOES) {
                book.exclude(v);
            } else if (kind == SWAPS) {
                if (alphabet.isSwap(v)) {
                    book.exchange(v);
                }
            } else if (book.allows(v)) {
                book.include(v);
            }
        }
    }

    /** All that an image holds. */
    private static final class Desk {
        private final Alphabet alphabet;
        private final Book book;
        private final Strip strip;
        private final Plan plan;

        Desk() {
            alphabet = new Alphabet();
            book = new Book(alphabet);
            strip = new Strip(alphabet);
            plan = new Plan(alphabet);
        }

        void beginAnew(int q, int n) {
            alphabet.become(q, n);
            book.empty();
            strip.empty();
            plan.empty();
        }

        void copyFrom(Desk other) {
            alphabet.become(other.alphabet.letters, other.alphabet.length);
            book.copyFrom(other.book);
            strip.copyFrom(other.strip);
            plan.copyFrom(other.plan);
        }
    }

    /** The greatest books of a small alphabet, sought once and kept until it is another one. */
    private static final class Greatest {
        /** 2 letters and length 5 have most: 86. */
        private static final int MOST_BOOKS = 128;

        private final Alphabet alphabet;
        private final Book trial;
        /** The number of each word's ring, -1 if it isn't whole. */
        private final int[] ringOf;
        /** Books, as bits of their words. */
        private final int[] found;
        private int lettersOf;
        private int lengthOf;
        private int rings;
        private int most;
        private int many;
        private int unlike;

        Greatest(Alphabet alphabet, Book trial) {
            this.alphabet = alphabet;
            this.trial = trial;
            ringOf = new int[SMALL_SIZE];
            found = new int[MOST_BOOKS];
            lettersOf = 0;
            lengthOf = 0;
        }

        int books() {
            return many;
        }

        int wordsEach() {
            return most;
        }

        int kinds() {
            return unlike;
        }

        int wordOf(int i, int ring) {
            if (i < 0 || i >= many || ring < 0 || ring >= rings) {
                return NOT;
            }
            int bits = Rows.at(found, i);
            for (int w = 0; w < ringOf.length; w++) {
                if ((bits >>> w & 1) == 1 && ringOf[w] == ring) {
                    return w;
                }
            }
            return NONE;
        }

        void find() {
            if (lettersOf == alphabet.letters && lengthOf == alphabet.length) {
                return;
            }
            lettersOf = alphabet.letters;
            lengthOf = alphabet.length;
            numberRings();
            most = 0;
            many = 0;
            trial.empty();
            seek(this, 0, 0);
            unlike = 0;
            for (int i = 0; i < many; i++) {
                if (isLeastOfItsKind(Rows.at(found, i))) {
                    unlike++;
                }
            }
        }

        private void numberRings() {
            rings = alphabet.wholeRingsBelow(alphabet.size);
            for (int w = 0; w < ringOf.length; w++) {
                boolean whole = alphabet.isWord(w) && alphabet.isWhole(w);
                ringOf[w] = whole ? alphabet.wholeRingsBelow(alphabet.ringLeast(w)) : -1;
            }
        }

        /** A book without commas stays one when a word goes, so each is come by through lesser ones. */
        private static void seek(Greatest g, int ring, int bits) {
            if (g.trial.total() + g.rings - ring < g.most) {
                return;
            }
            if (ring >= g.rings) {
                g.note(bits);
                return;
            }
            for (int w = 0; w < g.ringOf.length; w++) {
                if (g.ringOf[w] == ring && g.trial.allows(w)) {
                    g.trial.include(w);
                    seek(g, ring + 1, bits | 1 << w);
                    g.trial.exclude(w);
                }
            }
            seek(g, ring + 1, bits);
        }

        private void note(int bits) {
            if (trial.total() > most) {
                most = trial.total();
                many = 0;
            }
            if (many < found.length) {
                Rows.set(found, many, bits);
                many++;
            }
        }

        /** Swaps make up a group, so that of all books that are swapped ones of each other one is least. */
        private boolean isLeastOfItsKind(int bits) {
            int end = alphabet.swaps();
            for (int s = 0; s < end; s++) {
                if (exchangedBits(s, bits) < bits) {
                    return false;
                }
            }
            return true;
        }

        private int exchangedBits(int swap, int bits) {
            int result = 0;
            for (int w = 0; w < SMALL_SIZE; w++) {
                if ((bits >>> w & 1) == 1) {
                    result |= 1 << alphabet.exchanged(swap, w);
                }
            }
            return result;
        }
    }

    /** Bytes that tell a book, and the reasons of the latest fault. */
    private static final class Tape {
        private static final int MOST = 60;
        private static final int REASONS = 3;

        private final int[] bytes;
        private final int[] reasons;
        private boolean faulted;
        private int many;

        Tape() {
            bytes = new int[MOST];
            reasons = new int[REASONS];
            faulted = false;
            many = 0;
        }

        int total() {
            return many;
        }

        boolean append(int letter) {
            if (many >= MOST) {
                return false;
            }
            Rows.set(bytes, many, letter);
            many++;
            return true;
        }

        int reason(int i) {
            return faulted && i >= 0 && i < REASONS ? Rows.at(reasons, i) : NONE;
        }

        /** The book becomes as the tape tells, which is empty then; the fault's place, or -1. */
        int readInto(Book book) {
            Alphabet alphabet = book.alphabet;
            int length = many;
            int held = 0;
            int word = 0;
            many = 0;
            book.empty();
            for (int i = 0; i < length; i++) {
                int letter = Rows.at(bytes, i) - FIRST_LETTER;
                if (held == alphabet.length) {
                    if (letter != BLANK - FIRST_LETTER) {
                        return fault(i, book.total(), held);
                    }
                    held = 0;
                    word = 0;
                    continue;
                }
                if (letter < 0 || letter >= alphabet.letters) {
                    return fault(i, book.total(), held);
                }
                word = word * alphabet.letters + letter;
                if (held + 1 == alphabet.length && !book.include(word)) {
                    return fault(i, book.total(), held);
                }
                held++;
            }
            return held == alphabet.length ? -1 : fault(length, book.total(), held);
        }

        private int fault(int place, int wordsAhead, int lettersAhead) {
            faulted = true;
            Rows.set(reasons, 0, wordsAhead);
            Rows.set(reasons, 1, lettersAhead);
            Rows.set(reasons, 2, place);
            return place;
        }
    }

    /** The book as it was written latest. */
    private static final class Paper {
        /** All words of 3 letters and length 5 need most: 243 of them, and 242 blanks. */
        private static final int MOST = 1457;

        private final int[] bytes;
        private int many;

        Paper() {
            bytes = new int[MOST];
            many = 0;
        }

        int total() {
            return many;
        }

        int byteAt(int i) {
            return i >= 0 && i < many ? Rows.at(bytes, i) : NONE;
        }

        void become(Book book) {
            many = 0;
            for (int i = 0; i < book.total(); i++) {
                if (i > 0) {
                    append(BLANK);
                }
                for (int place = 0; place < book.alphabet.length; place++) {
                    append(FIRST_LETTER + book.alphabet.part(book.nth(i), place, 1));
                }
            }
        }

        private void append(int letter) {
            if (many < bytes.length) {
                Rows.set(bytes, many, letter);
                many++;
            }
        }
    }

    /** Four rows of a few ints each, or nothing. */
    private static final class Lists {
        private static final int LISTS = 4;
        private static final int MOST = 12;

        private final int[] lengths;
        private final int[] cells;

        Lists() {
            lengths = new int[LISTS];
            cells = new int[LISTS * MOST];
            Rows.fill(lengths, -1);
        }

        static boolean isList(int list) {
            return list >= 0 && list < LISTS;
        }

        /** -1 if nothing is held. */
        int length(int list) {
            return isList(list) ? Rows.at(lengths, list) : -1;
        }

        int at(int list, int i) {
            return Rows.at(cells, list * MOST + i);
        }

        void set(int list, int i, int v) {
            Rows.set(cells, list * MOST + i, v);
        }

        void become(int list, int n) {
            Rows.set(lengths, list, n);
            for (int i = 0; i < n && i < MOST; i++) {
                set(list, i, 0);
            }
        }
    }
}

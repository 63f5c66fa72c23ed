import java.lang.reflect.Method;
import java.lang.reflect.Modifier;
import java.util.ArrayList;
import java.util.Arrays;
import java.util.HashMap;
import java.util.List;
import java.util.Map;
import java.util.Random;
import java.util.TreeMap;
import java.util.TreeSet;

/**
 * Runs of calls, the same ones each time, on an object and on a model that does what the document
 * says word by word, with words as texts and without any haste.
 */
public final class ModelTest {
    private static final int NONE = -1, BAD = -2, STATE = -3, FULL = -4, NOT = -5;
    private static final int RUNS = 150;
    private static final int CALLS = 512;
    /** What the model leaves open, since it would take it too long. */
    private static final long OPEN = Long.MAX_VALUE;

    private static final class Model {
        int q = 2;
        int n = 3;
        TreeSet<String> book = new TreeSet<>();
        String strip = "";
        List<int[]> plan = new ArrayList<>();
        String tape = "";
        String paper = "";
        int[] why = null;
        int[][] lists = new int[4][];
        Model image = null;

        List<String> words() {
            return allWords(q, n);
        }

        int size() {
            return words().size();
        }

        boolean isWord(int w) {
            return w >= 0 && w < size();
        }

        String text(int w) {
            return words().get(w);
        }

        int number(String w) {
            return words().indexOf(w);
        }

        long size(int newQ, int newN) {
            if (newQ < 2 || newQ > 4 || newN < 1 || newN > 5 || Math.pow(newQ, newN) > 256) {
                return BAD;
            }
            q = newQ;
            n = newN;
            book = new TreeSet<>();
            strip = "";
            plan = new ArrayList<>();
            return size();
        }

        long add(int w) {
            return !isWord(w) ? NONE : book.add(text(w)) ? book.size() : STATE;
        }

        long drop(int w) {
            return !isWord(w) ? NONE : book.remove(text(w)) ? book.size() : STATE;
        }

        long clear() {
            int were = book.size();
            book = new TreeSet<>();
            return were;
        }

        long word(int i) {
            return i < 0 || i >= book.size() ? NOT : number(new ArrayList<>(book).get(i));
        }

        long letter(int w, int i) {
            return !isWord(w) || i < 0 || i >= n ? NONE : text(w).charAt(i) - 'a';
        }

        long hides(int u, int v, int w) {
            if (!isWord(u) || !isWord(v) || !isWord(w)) {
                return NONE;
            }
            int bits = 0;
            for (int k = 1; k < n; k++) {
                if ((text(u) + text(v)).startsWith(text(w), k)) {
                    bits |= 1 << k;
                }
            }
            return bits;
        }

        long clash(int what) {
            if (what < 0 || what > 3) {
                return NONE;
            }
            String[] c = firstClash(book, n);
            return c == null ? NOT : what == 2 ? Integer.parseInt(c[2]) : number(c[what]);
        }

        boolean mayCome(TreeSet<String> b, int w) {
            TreeSet<String> with = new TreeSet<>(b);
            return with.add(text(w)) && firstClash(with, n) == null;
        }

        long may(int w) {
            return !isWord(w) ? NONE : mayCome(book, w) ? 1 : 0;
        }

        long mays(int i) {
            List<Integer> row = new ArrayList<>();
            for (int w = 0; w < size() && firstClash(book, n) == null; w++) {
                if (mayCome(book, w)) {
                    row.add(w);
                }
            }
            return countOrNth(row, i);
        }

        static long countOrNth(List<Integer> row, int i) {
            return i == -1 ? row.size() : i < -1 || i >= row.size() ? NOT : row.get(i);
        }

        static TreeSet<String> ringOf(String w) {
            TreeSet<String> ring = new TreeSet<>();
            for (int i = 0; i < w.length(); i++) {
                ring.add(w.substring(i) + w.substring(0, i));
            }
            return ring;
        }

        static List<TreeSet<String>> wholeRings(int q, int n) {
            List<TreeSet<String>> rings = new ArrayList<>();
            for (String w : allWords(q, n)) {
                TreeSet<String> ring = ringOf(w);
                if (ring.first().equals(w) && ring.size() == n) {
                    rings.add(ring);
                }
            }
            return rings;
        }

        long ring(int w, int what) {
            if (!isWord(w) || what < 0 || what > 3) {
                return NONE;
            }
            TreeSet<String> ring = ringOf(text(w));
            if (what == 0) {
                return ring.size();
            }
            if (what == 1) {
                return number(ring.first());
            }
            if (what == 2) {
                int at = wholeRings(q, n).indexOf(ring);
                return at < 0 ? NOT : at;
            }
            return number(text(w).substring(1) + text(w).charAt(0));
        }

        long bound(int i) {
            List<Integer> row = new ArrayList<>();
            for (TreeSet<String> ring : wholeRings(q, n)) {
                row.add(number(ring.first()));
            }
            return countOrNth(row, i);
        }

        long great(int i, int k) {
            if (size() > 32) {
                return STATE;
            }
            List<TreeSet<String>> books = greatest(q, n);
            if (i == -1) {
                return books.size();
            }
            if (i == -2) {
                return books.get(0).size();
            }
            if (i == -3) {
                return kinds(q, n);
            }
            List<TreeSet<String>> rings = wholeRings(q, n);
            if (i < 0 || i >= books.size() || k < 0 || k >= rings.size()) {
                return NOT;
            }
            for (String w : rings.get(k)) {
                if (books.get(i).contains(w)) {
                    return number(w);
                }
            }
            return NONE;
        }

        int swaps() {
            return 2 * orders(q).size();
        }

        static String swappedText(int q, int s, String w) {
            String order = orders(q).get(s / 2);
            StringBuilder b = new StringBuilder();
            for (char c : w.toCharArray()) {
                b.append(order.charAt(c - 'a'));
            }
            return s % 2 == 1 ? b.reverse().toString() : b.toString();
        }

        static TreeSet<String> swappedBook(int q, int s, TreeSet<String> book) {
            TreeSet<String> result = new TreeSet<>();
            for (String w : book) {
                result.add(swappedText(q, s, w));
            }
            return result;
        }

        long swapped(int s, int w) {
            return s < 0 || s >= swaps() || !isWord(w) ? NONE : number(swappedText(q, s, text(w)));
        }

        long swap(int s) {
            if (s < 0 || s >= swaps()) {
                return NONE;
            }
            book = swappedBook(q, s, book);
            return book.size();
        }

        long keeps(int i) {
            List<Integer> row = new ArrayList<>();
            for (int s = 0; s < swaps(); s++) {
                if (swappedBook(q, s, book).equals(book)) {
                    row.add(s);
                }
            }
            return countOrNth(row, i);
        }

        long cast(int letter) {
            if (letter < 0 || letter >= q) {
                return BAD;
            }
            if (strip.length() == 40) {
                return FULL;
            }
            strip += (char) ('a' + letter);
            return strip.length();
        }

        long spell(int w) {
            if (!isWord(w)) {
                return NONE;
            }
            if (strip.length() + n > 40) {
                return FULL;
            }
            strip += text(w);
            return strip.length();
        }

        long tear(int v) {
            if (v < 0 || v > strip.length()) {
                return BAD;
            }
            strip = strip.substring(v);
            return strip.length();
        }

        /** Letters that are not told are dots; each stretch has to be of a word of the book. */
        static boolean isPossible(TreeSet<String> book, int n, String row, int r) {
            if (row.isEmpty()) {
                return true;
            }
            StringBuilder b = new StringBuilder(".".repeat((n - r) % n) + row);
            while (b.length() % n != 0) {
                b.append('.');
            }
            for (int i = 0; i < b.length(); i += n) {
                String stretch = b.substring(i, i + n);
                if (book.stream().noneMatch(w -> w.matches(stretch))) {
                    return false;
                }
            }
            return true;
        }

        static int offsets(TreeSet<String> book, int n, String row) {
            int bits = 0;
            for (int r = 0; r < n; r++) {
                bits |= isPossible(book, n, row, r) ? 1 << r : 0;
            }
            return bits;
        }

        long possible(int k) {
            return k < 0 || k > strip.length() ? BAD : offsets(book, n, strip.substring(0, k));
        }

        long certain(int what) {
            if (what < 0 || what > 1) {
                return NONE;
            }
            for (int k = 1; k <= strip.length(); k++) {
                int bits = offsets(book, n, strip.substring(0, k));
                if (Integer.bitCount(bits) == 1) {
                    return what == 0 ? k : Integer.numberOfTrailingZeros(bits);
                }
            }
            return NOT;
        }

        long delay() {
            if (size() > 32) {
                return STATE;
            }
            List<String> doubtful = new ArrayList<>(List.of(""));
            for (int k = 1; k <= 12; k++) {
                List<String> next = new ArrayList<>();
                for (String row : doubtful) {
                    for (int c = 0; c < q; c++) {
                        String longer = row + (char) ('a' + c);
                        if (Integer.bitCount(offsets(book, n, longer)) > 1) {
                            next.add(longer);
                        }
                    }
                }
                if (next.isEmpty()) {
                    return k;
                }
                if (next.size() > 300) {
                    return OPEN;
                }
                doubtful = next;
            }
            return NOT;
        }

        long odds(int v, int seed, int m, int part) {
            if (v < 1 || v > 12 || m < 1 || m > 30 || part < 0 || part > 1) {
                return Long.MIN_VALUE;
            }
            int free = 0;
            for (int t = 0; t < m; t++) {
                TreeSet<String> drawn = new TreeSet<>();
                int z = seed + t;
                for (int i = 0; i < v; i++) {
                    z = z * 1103515245 + 12345;
                    drawn.add(text((z >>> 16) % size()));
                }
                free += firstClash(drawn, n) == null ? 1 : 0;
            }
            int d = java.math.BigInteger.valueOf(free).gcd(java.math.BigInteger.valueOf(m)).intValue();
            return part == 0 ? free / d : m / d;
        }

        long plan(int what, int v) {
            if (what == -1) {
                plan = new ArrayList<>();
                return 0;
            }
            if (what < 0 || what > 3) {
                return NONE;
            }
            if (v < 0 || v > (what == 2 ? 47 : 255)) {
                return BAD;
            }
            if (plan.size() == 8) {
                return FULL;
            }
            plan.add(new int[] {what, v});
            return plan.size();
        }

        long behind(int what) {
            if (what < 0 || what > 2) {
                return NONE;
            }
            TreeSet<String> b = new TreeSet<>(book);
            for (int[] row : plan) {
                if (row[0] == 2) {
                    b = row[1] < swaps() ? swappedBook(q, row[1], b) : b;
                } else if (isWord(row[1])) {
                    if (row[0] == 0 || row[0] == 3 && mayCome(b, row[1])) {
                        b.add(text(row[1]));
                    } else if (row[0] == 1) {
                        b.remove(text(row[1]));
                    }
                }
            }
            if (what == 2) {
                return b.isEmpty() ? NOT : number(b.first());
            }
            return what == 0 ? b.size() : firstClash(b, n) == null ? 1 : 0;
        }

        long feed(int letter) {
            if (letter < 1 || letter > 127) {
                return BAD;
            }
            if (tape.length() == 60) {
                return FULL;
            }
            tape += (char) letter;
            return tape.length();
        }

        int fault(String text) {
            String one = "[a-" + (char) ('a' + q - 1) + "]";
            String begun = "(" + one + "{" + n + "} )*" + one + "{0," + n + "}";
            TreeSet<String> told = new TreeSet<>();
            for (int i = 0; i < text.length(); i++) {
                if (!text.substring(0, i + 1).matches(begun)) {
                    return i;
                }
                if (i % (n + 1) == n - 1 && !told.add(text.substring(i + 1 - n, i + 1))) {
                    return i;
                }
            }
            return text.length() % (n + 1) == n ? -1 : text.length();
        }

        long book() {
            String text = tape;
            tape = "";
            int fault = fault(text);
            if (fault < 0) {
                book = new TreeSet<>(Arrays.asList(text.split(" ")));
                return book.size();
            }
            String ahead = text.substring(0, fault);
            int whole = 0;
            for (String w : ahead.split(" ")) {
                whole += w.length() == n ? 1 : 0;
            }
            why = new int[] {whole, ahead.length() - 1 - ahead.lastIndexOf(' '), fault};
            return -100 - fault;
        }

        long why(int i) {
            return why == null || i < 0 || i > 2 ? NONE : why[i];
        }

        long write() {
            paper = String.join(" ", book);
            return paper.length();
        }

        long paper(int i) {
            return i < 0 || i >= paper.length() ? NONE : paper.charAt(i);
        }

        long judge(int l) {
            if (l < 0 || l > 3) {
                return NONE;
            }
            if (lists[l] == null) {
                return -11;
            }
            for (int i = 0; i < lists[l].length; i++) {
                if (lists[l][i] != (i < book.size() ? word(i) : -1)) {
                    return i;
                }
            }
            return -5;
        }

        long list(int l, int length) {
            if (l < 0 || l > 3) {
                return NONE;
            }
            if (length > 12) {
                return BAD;
            }
            if (length < 0) {
                return -14;
            }
            lists[l] = new int[length];
            return 1;
        }

        long put(int l, int i, int v) {
            if (l < 0 || l > 3) {
                return NONE;
            }
            if (lists[l] == null) {
                return -11;
            }
            if (i < 0 || i >= lists[l].length) {
                return -13;
            }
            lists[l][i] = v;
            return 1;
        }

        long get(int l, int i) {
            boolean there = l >= 0 && l < 4 && lists[l] != null && i >= 0 && i < lists[l].length;
            return there ? lists[l][i] : Long.MIN_VALUE;
        }

        private void takeFrom(Model other) {
            q = other.q;
            n = other.n;
            book = new TreeSet<>(other.book);
            strip = other.strip;
            plan = new ArrayList<>(other.plan);
        }

        long image() {
            image = new Model();
            image.takeFrom(this);
            return book.size();
        }

        long undo() {
            if (image == null) {
                return STATE;
            }
            takeFrom(image);
            return book.size();
        }

        long count(int what) {
            int[] row = {q, n, size(), book.size(), strip.length(), tape.length(), paper.length(), plan.size(), swaps()};
            return what < 0 || what >= row.length ? BAD : row[what];
        }
    }

    private static final Map<Integer, List<String>> WORDS = new HashMap<>();
    private static final Map<Integer, List<String>> ORDERS = new HashMap<>();
    private static final Map<Integer, List<TreeSet<String>>> GREATEST = new HashMap<>();

    private static List<String> allWords(int q, int n) {
        return WORDS.computeIfAbsent(10 * q + n, key -> {
            List<String> row = List.of("");
            for (int i = 0; i < n; i++) {
                List<String> longer = new ArrayList<>();
                for (String w : row) {
                    for (int c = 0; c < q; c++) {
                        longer.add(w + (char) ('a' + c));
                    }
                }
                row = longer;
            }
            return row;
        });
    }

    private static List<String> orders(int q) {
        return ORDERS.computeIfAbsent(q, key -> {
            List<String> row = new ArrayList<>();
            for (String w : allWords(q, q)) {
                if (w.chars().distinct().count() == q) {
                    row.add(w);
                }
            }
            return row;
        });
    }

    private static String[] firstClash(TreeSet<String> book, int n) {
        for (String u : book) {
            for (String v : book) {
                String both = u + v;
                for (int k = 1; k < n; k++) {
                    String hidden = both.substring(k, k + n);
                    if (book.contains(hidden)) {
                        return new String[] {u, v, "" + k, hidden};
                    }
                }
            }
        }
        return null;
    }

    private static List<TreeSet<String>> greatest(int q, int n) {
        return GREATEST.computeIfAbsent(10 * q + n, key -> {
            List<TreeSet<String>> free = new ArrayList<>();
            grow(free, Model.wholeRings(q, n), 0, new TreeSet<>(), n);
            int most = free.stream().mapToInt(TreeSet::size).max().orElse(0);
            free.removeIf(b -> b.size() < most);
            return free;
        });
    }

    private static void grow(List<TreeSet<String>> free, List<TreeSet<String>> rings, int at, TreeSet<String> book, int n) {
        if (firstClash(book, n) != null) {
            return;
        }
        if (at == rings.size()) {
            free.add(book);
            return;
        }
        for (String w : rings.get(at)) {
            TreeSet<String> with = new TreeSet<>(book);
            with.add(w);
            grow(free, rings, at + 1, with, n);
        }
        grow(free, rings, at + 1, book, n);
    }

    /** Classes of books by joining each with all its swapped ones. */
    private static int kinds(int q, int n) {
        TreeMap<String, Integer> kindOf = new TreeMap<>();
        int kinds = 0;
        for (TreeSet<String> b : greatest(q, n)) {
            if (!kindOf.containsKey(b.toString())) {
                for (int s = 0; s < 2 * orders(q).size(); s++) {
                    kindOf.put(Model.swappedBook(q, s, b).toString(), kinds);
                }
                kinds++;
            }
        }
        return kinds;
    }

    private static final String[] NAMES = {"size", "add", "drop", "clear", "word", "letter", "hides", "clash", "may",
        "mays", "ring", "bound", "great", "swapped", "swap", "keeps", "cast", "spell", "tear", "possible", "certain",
        "delay", "odds", "plan", "behind", "feed", "book", "why", "write", "paper", "judge", "list", "put", "get",
        "image", "undo", "count"};

    private static final Method[] ASKED = new Method[NAMES.length];
    private static final Method[] DUE = new Method[NAMES.length];

    /** The face's methods, and those of the same names and arguments by which the model answers. */
    private static void findMethods() throws NoSuchMethodException {
        for (Method m : CommaFreeBooks.class.getDeclaredMethods()) {
            int call = Arrays.asList(NAMES).indexOf(m.getName());
            if (call >= 0 && Modifier.isPublic(m.getModifiers())) {
                ASKED[call] = m;
                DUE[call] = Model.class.getDeclaredMethod(m.getName(), m.getParameterTypes());
            }
        }
    }

    private static long answer(Method method, Object x, int[] a) throws ReflectiveOperationException {
        return ((Number) method.invoke(x, Arrays.stream(a).boxed().toArray())).longValue();
    }

    private static final class Run {
        final Random random;
        final CommaFreeBooks x = new CommaFreeBooks();
        final Model model = new Model();
        final StringBuilder told = new StringBuilder();
        int calls = 0;

        Run(long seed) {
            random = new Random(seed);
        }

        /** Mostly from -1 to one above the end, now and then far from it. */
        int near(int end) {
            if (random.nextInt(40) == 0) {
                int[] far = {Integer.MIN_VALUE, Integer.MAX_VALUE, -2, -3, -4, 256, end + 1, 65536, -65536};
                return far[random.nextInt(far.length)];
            }
            return random.nextInt(20) == 0 ? -1 : random.nextInt(Math.max(1, end) + (random.nextInt(8) == 0 ? 1 : 0));
        }

        int aWord() {
            if (random.nextInt(3) == 0 && !model.book.isEmpty()) {
                return model.number(new ArrayList<>(model.book).get(random.nextInt(model.book.size())));
            }
            return near(model.size());
        }

        /** Whether the answers are the same; what later calls than the last one answer is free. */
        boolean same(int call, int... a) throws ReflectiveOperationException {
            if (calls == CALLS) {
                return true;
            }
            calls++;
            long want = answer(DUE[call], model, a);
            long got = answer(ASKED[call], x, a);
            told.append(NAMES[call]).append(Arrays.toString(a)).append(" = ").append(got).append("; ");
            if (want == OPEN || want == got) {
                return true;
            }
            System.out.println(NAMES[call] + Arrays.toString(a) + " answered " + got + ", due is " + want);
            return false;
        }

        boolean aText() throws ReflectiveOperationException {
            StringBuilder b = new StringBuilder();
            int words = 1 + random.nextInt(6);
            for (int i = 0; i < words; i++) {
                b.append(i > 0 ? " " : "").append(model.text(random.nextInt(model.size())));
            }
            if (random.nextInt(3) == 0) {
                String[] bits = {" ", "a", "b", "d", "e", "z", "A", "-", "\u007f", "\u0001"};
                int at = random.nextInt(b.length() + 1);
                b.replace(at, Math.min(b.length(), at + random.nextInt(3)), bits[random.nextInt(bits.length)]);
            }
            boolean right = true;
            for (int i = 0; i < b.length() && right; i++) {
                right = same(25, b.charAt(i));
            }
            return right && same(26) && same(27, random.nextInt(3));
        }

        boolean aGreatBook() throws ReflectiveOperationException {
            if (model.size() > 32) {
                return same(12, near(3), near(3));
            }
            return same(12, -1 - random.nextInt(4), near(9))
                && same(12, near(greatest(model.q, model.n).size()), near(Model.wholeRings(model.q, model.n).size()));
        }

        /** The book's words in a list, now and then one of them otherwise, and what is said of it. */
        boolean aList() throws ReflectiveOperationException {
            int list = random.nextInt(4);
            int length = random.nextInt(13);
            boolean right = same(31, list, length);
            for (int i = 0; i < length && right; i++) {
                boolean otherwise = random.nextInt(15) == 0;
                int word = i < model.book.size() ? (int) model.word(i) : -1;
                right = same(32, list, i, otherwise ? near(5) : word);
            }
            return right && same(30, list) && same(33, list, near(length));
        }

        boolean aFreeBook() throws ReflectiveOperationException {
            boolean right = true;
            for (int i = 0; i < 5 && right; i++) {
                long may = model.mays(-1);
                if (may > 0) {
                    right = same(1, (int) model.mays(random.nextInt((int) may)));
                }
            }
            return right;
        }

        boolean step() throws ReflectiveOperationException {
            int words = model.book.size();
            int call = random.nextInt(NAMES.length + 7);
            switch (call) {
                case 0:
                    return random.nextInt(6) != 0 || same(0, 1 + random.nextInt(4) + random.nextInt(2), random.nextInt(7));
                case 3: return random.nextInt(8) != 0 || same(3);
                case 1: case 2: case 8: case 17: return same(call, aWord());
                case 4: return same(4, near(words));
                case 5: return same(5, aWord(), near(model.n));
                case 6: return same(6, aWord(), aWord(), aWord());
                case 7: return same(7, near(4));
                case 9: return same(9, near(5));
                case 10: return same(10, aWord(), near(4));
                case 11: return same(11, near(8));
                case 12: return aGreatBook();
                case 13: return same(13, near(model.swaps()), aWord());
                case 14: return same(14, near(model.swaps()));
                case 15: return same(15, near(3));
                case 16: return same(16, near(model.q));
                case 18: return random.nextInt(3) != 0 || same(18, near(model.strip.length()));
                case 19: return same(19, near(model.strip.length() + 1));
                case 20: return same(20, near(2));
                case 21: case 26: case 28: case 34: case 35: return same(call);
                case 22: return same(22, near(13), random.nextInt(), near(31), near(2));
                case 23: return same(23, random.nextInt(30) == 0 ? -1 : near(4), random.nextBoolean() ? aWord() : near(48));
                case 24: return same(24, near(3));
                case 25: return same(25, random.nextInt(9) == 0 ? near(128) : 97 + random.nextInt(4));
                case 27: return same(27, near(3));
                case 29: return same(29, near(model.paper.length()));
                case 30: return same(30, near(4));
                case 31: return same(31, near(4), near(13));
                case 32: return same(32, near(4), near(12), random.nextBoolean() ? (int) model.word(near(3)) : near(9));
                case 33: return same(33, near(4), near(12));
                case 36: return same(36, near(9));
                case 37: return random.nextInt(3) != 0 || aText();
                case 38: case 39: return aFreeBook();
                case 40: case 41: return aList();
                default: return model.book.isEmpty() || same(17, model.number(model.book.last()));
            }
        }

        boolean goes() throws ReflectiveOperationException {
            if (!same(0, 2 + random.nextInt(3), 1 + random.nextInt(5))) {
                return false;
            }
            while (calls < CALLS) {
                if (!step()) {
                    return false;
                }
            }
            return true;
        }
    }

    public static void main(String[] args) throws ReflectiveOperationException {
        findMethods();
        int runs = args.length > 0 ? Integer.parseInt(args[0]) : RUNS;
        for (int seed = 1; seed <= runs; seed++) {
            Run run = new Run(seed);
            if (!run.goes()) {
                System.out.println("run " + seed + ": " + run.told);
                System.exit(1);
            }
        }
        System.out.println(runs + " runs answer as the model does");
    }
}

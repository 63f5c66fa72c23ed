import java.util.ArrayList;
import java.util.Arrays;
import java.util.List;

/** For each promise of the document: ordinary inputs, its edges, wrong inputs. */
public final class PromiseTest {
    private static final int NONE = -1, BAD = -2, STATE = -3, FULL = -4, NOT = -5;
    private static final int NOTHING = -11, BEYOND = -13, BELOW = -14;
    private static final long NO = Long.MIN_VALUE;
    private static final int[] FAR = {Integer.MIN_VALUE, Integer.MIN_VALUE + 1, -1000, 1000, 65536, Integer.MAX_VALUE};

    private static int promise;
    private static int wrong;

    private static void due(String call, long got, long want) {
        if (got != want) {
            wrong++;
            System.out.println("promise " + promise + ": " + call + " answered " + got + ", due is " + want);
        }
    }

    private static CommaFreeBooks made(int q, int n, int... words) {
        CommaFreeBooks x = new CommaFreeBooks();
        x.size(q, n);
        for (int w : words) {
            x.add(w);
        }
        return x;
    }

    private static void dueWords(String when, CommaFreeBooks x, int... words) {
        due("count(3) " + when, x.count(3), words.length);
        for (int i = 0; i < words.length; i++) {
            due("word(" + i + ") " + when, x.word(i), words[i]);
        }
        due("word behind the last " + when, x.word(words.length), NOT);
    }

    private static void duePaper(CommaFreeBooks x, String text) {
        due("write()", x.write(), text.length());
        due("count(6)", x.count(6), text.length());
        for (int i = 0; i < text.length(); i++) {
            due("paper(" + i + ")", x.paper(i), text.charAt(i));
        }
        due("paper behind the last", x.paper(text.length()), NONE);
    }

    private static int told(CommaFreeBooks x, String text) {
        for (int i = 0; i < text.length(); i++) {
            due("feed of " + text + " at " + i, x.feed(text.charAt(i)), i + 1);
        }
        int answer = x.book();
        due("count(5) behind book() of " + text, x.count(5), 0);
        return answer;
    }

    private static void dueFault(CommaFreeBooks x, String text, int fault, int words, int letters) {
        due("book() of '" + text + "'", told(x, text), -100 - fault);
        due("why(0) of '" + text + "'", x.why(0), words);
        due("why(1) of '" + text + "'", x.why(1), letters);
        due("why(2) of '" + text + "'", x.why(2), fault);
        due("why(3)", x.why(3), NONE);
        due("why(-1)", x.why(-1), NONE);
    }

    /** All that can be asked of THE BOOK, THE STRIP, the PLAN, LISTS, WHY, THE PAPER without a change. */
    private static List<Long> all(CommaFreeBooks x) {
        List<Long> row = new ArrayList<>();
        for (int i = 0; i <= 8; i++) {
            row.add((long) x.count(i));
        }
        for (int i = 0; i < x.count(3); i++) {
            row.add((long) x.word(i));
        }
        for (int k = 0; k <= x.count(4); k++) {
            row.add((long) x.possible(k));
        }
        for (int i = 0; i < x.count(6); i++) {
            row.add((long) x.paper(i));
        }
        for (int i = 0; i < 3; i++) {
            row.add((long) x.why(i));
            row.add((long) x.behind(i));
        }
        for (int l = 0; l < 4; l++) {
            for (int i = 0; i < 12; i++) {
                row.add(x.get(l, i));
            }
        }
        return row;
    }

    private static void dueSame(String when, List<Long> before, CommaFreeBooks x) {
        List<Long> after = all(x);
        if (!before.equals(after)) {
            wrong++;
            System.out.println("promise " + promise + ": changed by " + when + ": " + before + " became " + after);
        }
    }

    /** An object in which nothing is as it was at first. */
    private static CommaFreeBooks full() {
        CommaFreeBooks x = made(3, 2, 1, 2, 5);
        x.spell(1);
        x.spell(5);
        x.plan(0, 3);
        told(x, "b");
        x.write();
        x.list(0, 3);
        x.put(0, 1, 7);
        x.feed(97);
        return x;
    }

    private static void aNewObject() {
        CommaFreeBooks x = new CommaFreeBooks();
        int[] counts = {2, 3, 8, 0, 0, 0, 0, 0, 4};
        for (int i = 0; i < counts.length; i++) {
            due("count(" + i + ")", x.count(i), counts[i]);
        }
        due("word(0)", x.word(0), NOT);
        due("clash(0)", x.clash(0), NOT);
        due("paper(0)", x.paper(0), NONE);
        due("undo()", x.undo(), STATE);
        due("behind(0)", x.behind(0), 0);
        due("behind(1)", x.behind(1), 1);
        due("behind(2)", x.behind(2), NOT);
        for (int i = 0; i < 3; i++) {
            due("why(" + i + ")", x.why(i), NONE);
        }
        for (int l = 0; l < 4; l++) {
            due("judge(" + l + ")", x.judge(l), NOTHING);
            due("get(" + l + ", 0)", x.get(l, 0), NO);
        }
        due("book()", x.book(), -100);
        CommaFreeBooks a = new CommaFreeBooks();
        CommaFreeBooks b = new CommaFreeBooks();
        a.add(1);
        due("another object's count(3)", b.count(3), 0);
        due("NONE", CommaFreeBooks.NONE, NONE);
        due("BAD", CommaFreeBooks.BAD, BAD);
        due("STATE", CommaFreeBooks.STATE, STATE);
        due("FULL", CommaFreeBooks.FULL, FULL);
        due("NOT", CommaFreeBooks.NOT, NOT);
        due("NO", CommaFreeBooks.NO, NO);
    }

    private static void size() {
        CommaFreeBooks x = new CommaFreeBooks();
        int[][] sizes = {{2, 4, 8, 16, 32}, {3, 9, 27, 81, 243}, {4, 16, 64, 256, BAD}};
        for (int q = 2; q <= 4; q++) {
            for (int n = 1; n <= 5; n++) {
                int want = sizes[q - 2][n - 1];
                due("size(" + q + ", " + n + ")", x.size(q, n), want);
                if (want != BAD) {
                    due("count(0)", x.count(0), q);
                    due("count(1)", x.count(1), n);
                    due("count(2)", x.count(2), want);
                    due("add behind all", x.add(want), NONE);
                    due("add the last", x.add(want - 1), 1);
                }
            }
        }
        CommaFreeBooks y = full();
        List<Long> before = all(y);
        int[][] bad = {{1, 3}, {5, 1}, {0, 0}, {-2, 3}, {2, 0}, {2, 6}, {2, -1}, {4, 5}, {3, 6}, {1, 8}, {256, 1}};
        for (int[] b : bad) {
            due("size(" + b[0] + ", " + b[1] + ")", y.size(b[0], b[1]), BAD);
        }
        for (int f : FAR) {
            due("size(" + f + ", 1)", y.size(f, 1), BAD);
            due("size(2, " + f + ")", y.size(2, f), BAD);
        }
        dueSame("size that is BAD", before, y);
        due("size(3, 2)", y.size(3, 2), 9);
        int[] counts = {3, 2, 9, 0, 0, 1, 8, 0, 12};
        for (int i = 0; i < counts.length; i++) {
            due("count(" + i + ") behind size", y.count(i), counts[i]);
        }
        due("get(0, 1) behind size", y.get(0, 1), 7);
        due("why(2) behind size", y.why(2), 1);
        due("paper(0) behind size", y.paper(0), 97);
    }

    private static void add() {
        CommaFreeBooks x = made(3, 2);
        int[] words = {5, 0, 8, 3};
        for (int i = 0; i < words.length; i++) {
            due("add(" + words[i] + ")", x.add(words[i]), i + 1);
        }
        due("add(9)", x.add(9), NONE);
        due("add(-1)", x.add(-1), NONE);
        for (int f : FAR) {
            due("add(" + f + ")", x.add(f), NONE);
        }
        due("add(5)", x.add(5), STATE);
        due("add(0)", x.add(0), STATE);
        dueWords("", x, 0, 3, 5, 8);
        CommaFreeBooks y = made(4, 4);
        for (int w = 255; w >= 0; w--) {
            due("add(" + w + ")", y.add(w), 256 - w);
        }
        due("word(0)", y.word(0), 0);
        due("word(255)", y.word(255), 255);
        due("add(256)", y.add(256), NONE);
        due("add(255)", y.add(255), STATE);
    }

    private static void drop() {
        CommaFreeBooks x = made(3, 2, 1, 4, 5, 8);
        due("drop(5)", x.drop(5), 3);
        dueWords("", x, 1, 4, 8);
        due("drop(5)", x.drop(5), STATE);
        due("drop(9)", x.drop(9), NONE);
        due("drop(-1)", x.drop(-1), NONE);
        for (int f : FAR) {
            due("drop(" + f + ")", x.drop(f), NONE);
        }
        dueWords("", x, 1, 4, 8);
        due("drop(1)", x.drop(1), 2);
        due("drop(8)", x.drop(8), 1);
        due("drop(4)", x.drop(4), 0);
        due("drop(4)", x.drop(4), STATE);
        dueWords("", x);
        due("may(1) when all have gone", x.may(1), 1);
        due("add(5)", x.add(5), 1);
    }

    private static void clear() {
        CommaFreeBooks x = made(2, 3, 0, 1, 7);
        x.cast(1);
        x.plan(0, 3);
        due("clash(0)", x.clash(0), 0);
        due("clear()", x.clear(), 3);
        dueWords("", x);
        due("clear()", x.clear(), 0);
        due("clash(0)", x.clash(0), NOT);
        due("mays(-1)", x.mays(-1), 6);
        due("count(4)", x.count(4), 1);
        due("count(7)", x.count(7), 1);
        due("add(1)", x.add(1), 1);
    }

    private static void word() {
        CommaFreeBooks x = made(2, 4, 9, 2, 15, 0);
        dueWords("", x, 0, 2, 9, 15);
        due("word(-1)", x.word(-1), NOT);
        for (int f : FAR) {
            due("word(" + f + ")", x.word(f), NOT);
        }
    }

    private static void letter() {
        CommaFreeBooks x = made(3, 4);
        int[] letters = {2, 0, 1, 2};
        for (int i = 0; i < 4; i++) {
            due("letter(59, " + i + ")", x.letter(59, i), letters[i]);
            due("letter(0, " + i + ")", x.letter(0, i), 0);
            due("letter(80, " + i + ")", x.letter(80, i), 2);
        }
        due("letter(81, 0)", x.letter(81, 0), NONE);
        due("letter(-1, 0)", x.letter(-1, 0), NONE);
        due("letter(59, 4)", x.letter(59, 4), NONE);
        due("letter(59, -1)", x.letter(59, -1), NONE);
        for (int f : FAR) {
            due("letter(" + f + ", 0)", x.letter(f, 0), NONE);
            due("letter(0, " + f + ")", x.letter(0, f), NONE);
        }
        x.size(4, 1);
        due("letter(3, 0)", x.letter(3, 0), 3);
        due("letter(3, 1)", x.letter(3, 1), NONE);
    }

    private static void hides() {
        CommaFreeBooks x = made(2, 3);
        due("hides(1, 1, 2)", x.hides(1, 1, 2), 2);
        due("hides(1, 1, 4)", x.hides(1, 1, 4), 4);
        due("hides(1, 3, 4)", x.hides(1, 3, 4), 0 + 0);
        due("hides(1, 3, 2)", x.hides(1, 3, 2), 2);
        due("hides(0, 0, 0)", x.hides(0, 0, 0), 6);
        due("hides(1, 1, 1)", x.hides(1, 1, 1), 0);
        due("hides(8, 0, 0)", x.hides(8, 0, 0), NONE);
        due("hides(0, 8, 0)", x.hides(0, 8, 0), NONE);
        due("hides(0, 0, 8)", x.hides(0, 0, 8), NONE);
        due("hides(-1, 0, 0)", x.hides(-1, 0, 0), NONE);
        due("hides(0, -1, 0)", x.hides(0, -1, 0), NONE);
        due("hides(0, 0, -1)", x.hides(0, 0, -1), NONE);
        for (int f : FAR) {
            due("hides(" + f + ")", x.hides(f, 0, 0), NONE);
            due("hides(0, " + f + ")", x.hides(0, f, 0), NONE);
            due("hides(0, 0, " + f + ")", x.hides(0, 0, f), NONE);
        }
        x.size(2, 5);
        due("hides(31, 31, 31)", x.hides(31, 31, 31), 30);
        due("hides(10, 10, 10)", x.hides(10, 10, 10), 0);
        due("hides(10, 21, 21)", x.hides(10, 21, 21), 2 + 8);
        x.size(3, 2);
        due("hides(1, 5, 4)", x.hides(1, 5, 4), 2);
        x.size(4, 1);
        due("hides(2, 2, 2)", x.hides(2, 2, 2), 0);
    }

    private static void dueClash(CommaFreeBooks x, int u, int v, int k, int w) {
        due("clash(0)", x.clash(0), u);
        due("clash(1)", x.clash(1), v);
        due("clash(2)", x.clash(2), k);
        due("clash(3)", x.clash(3), w);
    }

    private static void clash() {
        dueClash(made(2, 3, 0), 0, 0, 1, 0);
        dueClash(made(2, 3, 1, 2), 1, 1, 1, 2);
        dueClash(made(2, 3, 1, 4), 1, 1, 2, 4);
        dueClash(made(2, 3, 3, 6), 3, 3, 1, 6);
        // 1 and 5 (ab, bc): abbc hides bb; 4 comes: bb
        dueClash(made(3, 2, 1, 4, 5), 1, 4, 1, 4);
        dueClash(made(3, 2, 4), 4, 4, 1, 4);
        // ab ca: bc in abca, aa in caab (not told)
        dueClash(made(3, 2, 1, 5, 6), 1, 6, 1, 5);
        // abcd dddd: dddd from d on
        dueClash(made(4, 4, 27, 255), 27, 255, 3, 255);
        CommaFreeBooks free = made(2, 3, 1, 3);
        for (int what = 0; what < 4; what++) {
            due("clash(" + what + ")", free.clash(what), NOT);
        }
        due("clash(4)", free.clash(4), NONE);
        due("clash(-1)", free.clash(-1), NONE);
        CommaFreeBooks x = made(2, 3, 0);
        due("clash(4)", x.clash(4), NONE);
        due("clash(-1)", x.clash(-1), NONE);
        for (int f : FAR) {
            due("clash(" + f + ")", x.clash(f), NONE);
        }
        due("clash(0) of all words of one letter", made(4, 1, 0, 1, 2, 3).clash(0), NOT);
    }

    private static void may() {
        CommaFreeBooks x = made(2, 3, 1);
        int[] may = {0, 0, 0, 1, 0, 1, 1, 0};
        for (int w = 0; w < 8; w++) {
            due("may(" + w + ")", x.may(w), may[w]);
        }
        due("may(8)", x.may(8), NONE);
        due("may(-1)", x.may(-1), NONE);
        for (int f : FAR) {
            due("may(" + f + ")", x.may(f), NONE);
        }
        dueWords("behind may", x, 1);
        due("clash(0) behind may", x.clash(0), NOT);
        due("may(3) of a book that is not free", made(2, 3, 0).may(3), 0);
        due("may(0) of one letter", made(2, 1, 1).may(0), 1);
        due("may(1) that is there", made(2, 1, 1).may(1), 0);
    }

    private static void mays() {
        CommaFreeBooks x = made(2, 3, 1);
        due("mays(-1)", x.mays(-1), 3);
        int[] may = {3, 5, 6};
        for (int i = 0; i < may.length; i++) {
            due("mays(" + i + ")", x.mays(i), may[i]);
        }
        due("mays(3)", x.mays(3), NOT);
        due("mays(-2)", x.mays(-2), NOT);
        for (int f : FAR) {
            due("mays(" + f + ")", x.mays(f), NOT);
        }
        CommaFreeBooks all = made(2, 3);
        due("mays(-1) of no words", all.mays(-1), 6);
        due("mays(0) of no words", all.mays(0), 1);
        due("mays(5) of no words", all.mays(5), 6);
        due("mays(-1) of a book that is not free", made(2, 3, 0).mays(-1), 0);
        due("mays(0) of a book that is not free", made(2, 3, 0).mays(0), NOT);
        due("mays(-1) of 256", made(4, 4).mays(-1), 240);
        due("mays(-1) of one letter", made(4, 1, 2).mays(-1), 3);
        due("mays(2) of one letter", made(4, 1, 2).mays(2), 3);
    }

    private static void ring() {
        CommaFreeBooks x = made(2, 4);
        // 5 is abab: two in its ring; 6 is abba
        int[][] want = {{0, 1, 0, NOT, 0}, {1, 4, 1, 0, 2}, {5, 2, 5, NOT, 10}, {10, 2, 5, NOT, 5},
            {6, 4, 3, 1, 12}, {9, 4, 3, 1, 3}, {14, 4, 7, 2, 13}, {15, 1, 15, NOT, 15}};
        for (int[] w : want) {
            for (int what = 0; what < 4; what++) {
                due("ring(" + w[0] + ", " + what + ")", x.ring(w[0], what), w[what + 1]);
            }
        }
        due("ring(16, 0)", x.ring(16, 0), NONE);
        due("ring(-1, 0)", x.ring(-1, 0), NONE);
        due("ring(0, 4)", x.ring(0, 4), NONE);
        due("ring(0, -1)", x.ring(0, -1), NONE);
        for (int f : FAR) {
            due("ring(" + f + ", 0)", x.ring(f, 0), NONE);
            due("ring(1, " + f + ")", x.ring(1, f), NONE);
        }
        x.size(3, 1);
        for (int w = 0; w < 3; w++) {
            due("ring(w, 0) of one letter", x.ring(w, 0), 1);
            due("ring(w, 1) of one letter", x.ring(w, 1), w);
            due("ring(w, 2) of one letter", x.ring(w, 2), w);
            due("ring(w, 3) of one letter", x.ring(w, 3), w);
        }
        x.size(4, 4);
        due("ring(255, 0)", x.ring(255, 0), 1);
        due("ring(254, 1)", x.ring(254, 1), 191);
        due("ring(254, 2)", x.ring(254, 2), 59);
    }

    private static void bound() {
        int[][] bounds = {{2, 1, 2}, {2, 2, 1}, {2, 3, 2}, {2, 4, 3}, {2, 5, 6}, {3, 1, 3}, {3, 2, 3}, {3, 3, 8},
            {3, 4, 18}, {3, 5, 48}, {4, 1, 4}, {4, 2, 6}, {4, 3, 20}, {4, 4, 60}};
        CommaFreeBooks x = new CommaFreeBooks();
        for (int[] b : bounds) {
            x.size(b[0], b[1]);
            due("bound(-1) of " + b[0] + ", " + b[1], x.bound(-1), b[2]);
            due("bound of the last + 1", x.bound(b[2]), NOT);
        }
        x.size(2, 4);
        int[] leasts = {1, 3, 7};
        for (int i = 0; i < leasts.length; i++) {
            due("bound(" + i + ")", x.bound(i), leasts[i]);
        }
        due("bound(-2)", x.bound(-2), NOT);
        for (int f : FAR) {
            due("bound(" + f + ")", x.bound(f), NOT);
        }
        x.size(4, 4);
        due("bound(59)", x.bound(59), 191);
        x.size(3, 1);
        for (int w = 0; w < 3; w++) {
            due("bound(" + w + ") of one letter", x.bound(w), w);
        }
    }

    private static void great() {
        CommaFreeBooks x = made(2, 3);
        int[][] books = {{1, 3}, {1, 5}, {1, 6}, {2, 3}, {2, 6}, {4, 3}, {4, 5}, {4, 6}};
        due("great(-1, 0)", x.great(-1, 0), books.length);
        due("great(-2, 0)", x.great(-2, 0), 2);
        due("great(-3, 0)", x.great(-3, 0), 3);
        for (int i = 0; i < books.length; i++) {
            due("great(" + i + ", 0)", x.great(i, 0), books[i][0]);
            due("great(" + i + ", 1)", x.great(i, 1), books[i][1]);
        }
        due("great(8, 0)", x.great(8, 0), NOT);
        due("great(0, 2)", x.great(0, 2), NOT);
        due("great(0, -1)", x.great(0, -1), NOT);
        due("great(-4, 0)", x.great(-4, 0), NOT);
        due("great(-1, 99)", x.great(-1, 99), books.length);
        due("great(-3, -7)", x.great(-3, -7), 3);
        for (int f : FAR) {
            due("great(" + f + ", 0)", x.great(f, 0), NOT);
            due("great(0, " + f + ")", x.great(0, f), NOT);
        }
        dueWords("behind great", x);
        int[][] most = {{2, 1, 1, 2, 1}, {2, 2, 2, 1, 1}, {2, 4, 28, 3, 8}, {2, 5, 86, 6, 25}, {3, 1, 1, 3, 1},
            {3, 2, 6, 3, 1}, {3, 3, 42, 8, 5}, {4, 1, 1, 4, 1}, {4, 2, 36, 5, 2}};
        for (int[] m : most) {
            x.size(m[0], m[1]);
            due("great(-1) of " + m[0] + ", " + m[1], x.great(-1, 0), m[2]);
            due("great(-2) of " + m[0] + ", " + m[1], x.great(-2, 0), m[3]);
            due("great(-3) of " + m[0] + ", " + m[1], x.great(-3, 0), m[4]);
        }
        x.size(2, 2);
        due("great(-1, 0) of 2, 2", x.great(-1, 0), 2);
        x.size(3, 2);
        due("great(-1, 0) of other letters", x.great(-1, 0), 6);
        due("great(5, 2) of other letters", x.great(5, 2), 7);
        x.size(3, 1);
        for (int k = 0; k < 3; k++) {
            due("great(0, " + k + ") of one letter", x.great(0, k), k);
        }
        // the first: ab ac ad bc bd and none of ring 5; the last: none of ring 0
        x.size(4, 2);
        int[] first = {1, 2, 3, 6, 7, NONE};
        int[] last = {NONE, 8, 12, 9, 13, 14};
        for (int k = 0; k < 6; k++) {
            due("great(0, " + k + ") of 4, 2", x.great(0, k), first[k]);
            due("great(35, " + k + ") of 4, 2", x.great(35, k), last[k]);
        }
        due("great(0, 6)", x.great(0, 6), NOT);
        x.add(1);
        due("great(0, 0) does not look at the book", x.great(0, 0), 1);
        x.size(4, 3);
        due("great(-1, 0) of 64", x.great(-1, 0), STATE);
        due("great(-4, 0) of 64", x.great(-4, 0), STATE);
        due("great(0, 99) of 64", x.great(0, 99), STATE);
        x.size(2, 5);
        due("great(-1, 0) of 32", x.great(-1, 0), 86);
        // the last: baaaa baaab babaa babab bbbaa bbbab, by rings aaaab aaabb aabab aabbb ababb abbbb
        int[] lastOf32 = {16, 17, 20, 28, 21, 29};
        for (int k = 0; k < 6; k++) {
            due("great(85, " + k + ") of 32", x.great(85, k), lastOf32[k]);
        }
        due("great(86, 5) of 32", x.great(86, 5), NOT);
    }

    private static void swapped() {
        CommaFreeBooks x = made(3, 2);
        // ab (1), by the orders abc, acb, bac, bca, cab, cba, each straight and mirrored
        int[] of1 = {1, 3, 2, 6, 3, 1, 5, 7, 6, 2, 7, 5};
        for (int s = 0; s < of1.length; s++) {
            due("swapped(" + s + ", 1)", x.swapped(s, 1), of1[s]);
        }
        due("swapped(12, 1)", x.swapped(12, 1), NONE);
        due("swapped(-1, 1)", x.swapped(-1, 1), NONE);
        due("swapped(0, 9)", x.swapped(0, 9), NONE);
        due("swapped(0, -1)", x.swapped(0, -1), NONE);
        for (int f : FAR) {
            due("swapped(" + f + ", 1)", x.swapped(f, 1), NONE);
            due("swapped(0, " + f + ")", x.swapped(0, f), NONE);
        }
        x.size(2, 3);
        due("swapped(1, 1)", x.swapped(1, 1), 4);
        due("swapped(2, 1)", x.swapped(2, 1), 6);
        due("swapped(3, 1)", x.swapped(3, 1), 3);
        due("swapped(4, 1)", x.swapped(4, 1), NONE);
        x.size(4, 4);
        // abcd is 27: by it each order is told as a word
        int rising = -1;
        for (int s = 0; s < 48; s += 2) {
            int w = x.swapped(s, 27);
            due("swapped(" + s + ", 27) above the one ahead", w > rising ? 1 : 0, 1);
            rising = w;
        }
        due("swapped(46, 27)", x.swapped(46, 27), 228);
        due("swapped(47, 27)", x.swapped(47, 27), 27);
        due("swapped(20, 27)", x.swapped(20, 27), 2 + 4 * 0 + 16 * 3 + 64);
        due("swapped(21, 27)", x.swapped(21, 27), 1 + 4 * 3 + 16 * 0 + 64 * 2);
        due("swapped(48, 27)", x.swapped(48, 27), NONE);
    }

    private static void swap() {
        CommaFreeBooks x = made(3, 2, 1, 2, 5);
        due("swap(8)", x.swap(8), 3);
        dueWords("", x, 1, 6, 7);
        due("swap(1)", x.swap(1), 3);
        dueWords("", x, 2, 3, 5);
        due("swap(0)", x.swap(0), 3);
        dueWords("", x, 2, 3, 5);
        due("swap(12)", x.swap(12), NONE);
        due("swap(-1)", x.swap(-1), NONE);
        for (int f : FAR) {
            due("swap(" + f + ")", x.swap(f), NONE);
        }
        dueWords("", x, 2, 3, 5);
        due("drop(3)", x.drop(3), 2);
        due("may(5)", x.may(5), 0);
        due("swap(11) of no words", made(3, 2).swap(11), 0);
        CommaFreeBooks y = made(2, 3, 1, 3);
        due("swap(2)", y.swap(2), 2);
        dueWords("", y, 4, 6);
        due("clash(0)", y.clash(0), NOT);
        due("may(1)", y.may(1), 0);
    }

    private static void keeps() {
        CommaFreeBooks x = made(3, 2, 1, 2, 5);
        due("keeps(-1)", x.keeps(-1), 2);
        due("keeps(0)", x.keeps(0), 0);
        due("keeps(1)", x.keeps(1), 11);
        due("keeps(2)", x.keeps(2), NOT);
        due("keeps(-2)", x.keeps(-2), NOT);
        for (int f : FAR) {
            due("keeps(" + f + ")", x.keeps(f), NOT);
        }
        CommaFreeBooks none = made(4, 2);
        due("keeps(-1) of no words", none.keeps(-1), 48);
        due("keeps(47) of no words", none.keeps(47), 47);
        due("keeps(48) of no words", none.keeps(48), NOT);
        CommaFreeBooks one = made(2, 3, 2);
        due("keeps(-1) of aba", one.keeps(-1), 2);
        due("keeps(1) of aba", one.keeps(1), 1);
        due("keeps(-1) of aab", made(2, 3, 1).keeps(-1), 1);
        due("keeps(-1) of aab bba", made(2, 3, 1, 6).keeps(-1), 2);
        due("keeps(1) of aab bba", made(2, 3, 1, 6).keeps(1), 2);
    }

    private static void cast() {
        CommaFreeBooks x = made(3, 2);
        for (int i = 0; i < 40; i++) {
            due("cast(" + i % 3 + ")", x.cast(i % 3), i + 1);
        }
        due("cast(0) of 40", x.cast(0), FULL);
        due("cast(3) of 40", x.cast(3), BAD);
        due("count(4)", x.count(4), 40);
        CommaFreeBooks y = made(2, 3, 1);
        due("cast(2)", y.cast(2), BAD);
        due("cast(-1)", y.cast(-1), BAD);
        for (int f : FAR) {
            due("cast(" + f + ")", y.cast(f), BAD);
        }
        due("count(4)", y.count(4), 0);
        due("cast(0)", y.cast(0), 1);
        due("cast(0)", y.cast(0), 2);
        due("cast(1)", y.cast(1), 3);
        due("possible(3)", y.possible(3), 1);
    }

    private static void spell() {
        CommaFreeBooks x = made(2, 3, 1);
        due("spell(1)", x.spell(1), 3);
        due("spell(1)", x.spell(1), 6);
        due("possible(6)", x.possible(6), 1);
        due("spell(8)", x.spell(8), NONE);
        due("spell(-1)", x.spell(-1), NONE);
        for (int f : FAR) {
            due("spell(" + f + ")", x.spell(f), NONE);
        }
        for (int i = 3; i <= 13; i++) {
            due("spell(1)", x.spell(1), 3 * i);
        }
        due("spell(1) of 39", x.spell(1), FULL);
        due("spell(8) of 39", x.spell(8), NONE);
        due("count(4)", x.count(4), 39);
        due("cast(0)", x.cast(0), 40);
        due("tear(3)", x.tear(3), 37);
        due("spell(1) of 37", x.spell(1), 40);
        due("spell(1) of 40", x.spell(1), FULL);
    }

    private static void tear() {
        CommaFreeBooks x = made(2, 3, 1, 3);
        x.spell(1);
        x.spell(3);
        due("tear(7)", x.tear(7), BAD);
        due("tear(-1)", x.tear(-1), BAD);
        for (int f : FAR) {
            due("tear(" + f + ")", x.tear(f), BAD);
        }
        due("tear(0)", x.tear(0), 6);
        due("possible(6)", x.possible(6), 1);
        due("tear(1)", x.tear(1), 5);
        due("possible(5)", x.possible(5), 4);
        due("tear(1)", x.tear(1), 4);
        due("possible(4)", x.possible(4), 2);
        due("tear(4)", x.tear(4), 0);
        due("tear(1)", x.tear(1), BAD);
        due("tear(0)", x.tear(0), 0);
        due("count(4)", x.count(4), 0);
    }

    private static void possible() {
        CommaFreeBooks x = made(2, 4, 1, 3);
        due("possible(0) of no letters", x.possible(0), 15);
        x.spell(1);
        x.spell(3);
        x.cast(0);
        int[] bits = {15, 13, 9, 1, 1, 1, 1, 1, 1, 1};
        for (int k = 0; k < bits.length; k++) {
            due("possible(" + k + ")", x.possible(k), bits[k]);
        }
        due("possible(10)", x.possible(10), BAD);
        due("possible(-1)", x.possible(-1), BAD);
        for (int f : FAR) {
            due("possible(" + f + ")", x.possible(f), BAD);
        }
        CommaFreeBooks none = made(2, 3);
        none.cast(0);
        due("possible(0) of no words", none.possible(0), 7);
        due("possible(1) of no words", none.possible(1), 0);
        CommaFreeBooks one = made(3, 1, 0, 2);
        one.cast(2);
        one.cast(0);
        one.cast(1);
        due("possible(0) of one letter", one.possible(0), 1);
        due("possible(2) of one letter", one.possible(2), 1);
        due("possible(3) of one letter", one.possible(3), 0);
        // a row within one word: b alone in abc stands in the middle, at neither end
        CommaFreeBooks middle = made(3, 3, 5);
        middle.cast(1);
        due("possible(1) of b in abc", middle.possible(1), 4);
        middle.cast(2);
        due("possible(2) of bc in abc", middle.possible(2), 4);
        middle.cast(1);
        due("possible(3) of bcb in abc", middle.possible(3), 0);
    }

    private static void certain() {
        CommaFreeBooks x = made(2, 4, 1, 3);
        due("certain(0) of no letters", x.certain(0), NOT);
        due("certain(1) of no letters", x.certain(1), NOT);
        x.spell(1);
        due("certain(0)", x.certain(0), 3);
        due("certain(1)", x.certain(1), 0);
        due("certain(2)", x.certain(2), NONE);
        due("certain(-1)", x.certain(-1), NONE);
        for (int f : FAR) {
            due("certain(" + f + ")", x.certain(f), NONE);
        }
        x.tear(2);
        due("certain(0) of ab", x.certain(0), NOT);
        x.spell(3);
        due("certain(0) of abaabb", x.certain(0), 3);
        due("certain(1) of abaabb", x.certain(1), 2);
        // a stands in ab at the front alone
        CommaFreeBooks y = made(2, 2, 1);
        y.cast(0);
        due("certain(0) of a in ab", y.certain(0), 1);
        due("certain(1) of a in ab", y.certain(1), 0);
        CommaFreeBooks z = made(2, 3, 2);
        z.cast(0);
        z.cast(0);
        z.cast(0);
        due("possible(1)", z.possible(1), 3);
        due("possible(2)", z.possible(2), 2);
        due("certain(0) of aaa in aba", z.certain(0), 2);
        due("certain(1) of aaa in aba", z.certain(1), 1);
        due("certain(0) when none is ever alone", none(), NOT);
        due("certain(2) of no letters", made(2, 3).certain(2), NONE);
    }

    private static long none() {
        CommaFreeBooks x = made(2, 2, 0);
        x.cast(0);
        x.cast(0);
        x.cast(1);
        due("possible(2)", x.possible(2), 3);
        due("possible(3)", x.possible(3), 0);
        return x.certain(0);
    }

    private static void delay() {
        due("delay() of no words", made(2, 3).delay(), 1);
        due("delay() of aaab aabb", made(2, 4, 1, 3).delay(), 4);
        due("delay() of one letter", made(2, 1, 0, 1).delay(), 1);
        due("delay() of aa", made(2, 2, 0).delay(), NOT);
        due("delay() of ab", made(2, 2, 1).delay(), 1);
        due("delay() of ab ba", made(2, 2, 1, 2).delay(), NOT);
        due("delay() of all 32", made(2, 5, 0, 31).delay(), NOT);
        due("delay() of aab", made(2, 3, 1).delay(), 2);
        due("delay() of ab ac bc", made(3, 2, 1, 2, 5).delay(), 2);
        due("delay() of 64", made(4, 3).delay(), STATE);
        due("delay() of 81", made(3, 4, 0).delay(), STATE);
        due("delay() of 27", made(3, 3).delay(), 1);
        // each found by going through all rows of letters
        int[][] of32 = {{3, 24}, {4, 22}, {5, 3, 10}, {6, 1, 28}, {7, 2, 6, 18, 23}, {8, 10, 29}, {9, 5, 11, 19},
            {10, 10, 16, 19, 24}, {11, 2, 3, 9, 26}, {12, 19, 20, 30}, {NOT, 1, 3, 10, 25, 30}, {NOT, 3, 5, 23, 28}};
        for (int[] d : of32) {
            int[] words = Arrays.copyOfRange(d, 1, d.length);
            due("delay() of " + Arrays.toString(words), made(2, 5, words).delay(), d[0]);
        }
        due("delay() of 2 7 9", made(2, 4, 2, 7, 9).delay(), 10);
        due("delay() of 1 11 16 18", made(3, 3, 1, 11, 16, 18).delay(), 7);
        due("delay() of 1 8 11 12", made(4, 2, 1, 8, 11, 12).delay(), 3);
    }

    private static void odds() {
        CommaFreeBooks x = made(3, 2, 4);
        due("odds(2, 7, 30, 0)", x.odds(2, 7, 30, 0), 7);
        due("odds(2, 7, 30, 1)", x.odds(2, 7, 30, 1), 15);
        dueWords("behind odds", x, 4);
        long[][] wrongs = {{0, 7, 30, 0}, {13, 7, 30, 0}, {2, 7, 0, 0}, {2, 7, 31, 0}, {2, 7, 30, 2}, {2, 7, 30, -1}};
        for (long[] w : wrongs) {
            due("odds(" + w[0] + ", 7, " + w[2] + ", " + w[3] + ")",
                x.odds((int) w[0], (int) w[1], (int) w[2], (int) w[3]), NO);
        }
        for (int f : FAR) {
            due("odds(" + f + ", 0, 1, 0)", x.odds(f, 0, 1, 0), NO);
            due("odds(1, 0, " + f + ", 0)", x.odds(1, 0, f, 0), NO);
            due("odds(1, 0, 1, " + f + ")", x.odds(1, 0, 1, f), NO);
        }
        for (int seed : new int[] {0, 1, -1, Integer.MAX_VALUE, Integer.MIN_VALUE, 123456789}) {
            for (int v = 1; v <= 12; v++) {
                dueOdds(v, seed, 30);
                dueOdds(v, seed, 1);
            }
        }
        due("odds of one letter above", made(2, 1).odds(12, 5, 30, 0), 1);
        due("odds of one letter below", made(2, 1).odds(12, 5, 30, 1), 1);
        due("odds of none above", made(2, 2).odds(12, 5, 30, 0), 0);
        due("odds of none below", made(2, 2).odds(12, 5, 30, 1), 1);
    }

    /** By the calls add and clash, which promises of their own hold to the document. */
    private static void dueOdds(int v, int seed, int m) {
        CommaFreeBooks x = made(3, 2);
        int free = 0;
        for (int t = 0; t < m; t++) {
            CommaFreeBooks y = made(3, 2);
            int z = seed + t;
            for (int i = 0; i < v; i++) {
                z = z * 1103515245 + 12345;
                y.add((z >>> 16) % 9);
            }
            free += y.clash(0) == NOT ? 1 : 0;
        }
        int above = free;
        int below = m;
        for (int d = 2; d <= below; d++) {
            while (above % d == 0 && below % d == 0) {
                above /= d;
                below /= d;
            }
        }
        due("odds(" + v + ", " + seed + ", " + m + ", 0)", x.odds(v, seed, m, 0), above);
        due("odds(" + v + ", " + seed + ", " + m + ", 1)", x.odds(v, seed, m, 1), below);
    }

    private static void plan() {
        CommaFreeBooks x = made(3, 2);
        due("plan(0, 0)", x.plan(0, 0), 1);
        due("plan(1, 255)", x.plan(1, 255), 2);
        due("plan(2, 47)", x.plan(2, 47), 3);
        due("plan(3, 255)", x.plan(3, 255), 4);
        int[][] bad = {{0, 256}, {0, -1}, {1, 256}, {1, -1}, {2, 48}, {2, -1}, {3, 256}, {3, -1}};
        for (int[] b : bad) {
            due("plan(" + b[0] + ", " + b[1] + ")", x.plan(b[0], b[1]), BAD);
        }
        for (int f : FAR) {
            due("plan(" + f + ", 0)", x.plan(f, 0), NONE);
            due("plan(0, " + f + ")", x.plan(0, f), BAD);
            due("plan(2, " + f + ")", x.plan(2, f), BAD);
        }
        due("plan(4, 999)", x.plan(4, 999), NONE);
        due("plan(-2, 0)", x.plan(-2, 0), NONE);
        due("count(7)", x.count(7), 4);
        for (int i = 5; i <= 8; i++) {
            due("plan(0, 1)", x.plan(0, 1), i);
        }
        due("plan(0, 1) of 8", x.plan(0, 1), FULL);
        due("plan(0, 256) of 8", x.plan(0, 256), BAD);
        due("plan(4, 0) of 8", x.plan(4, 0), NONE);
        due("count(7)", x.count(7), 8);
        due("count(3)", x.count(3), 0);
        due("plan(-1, 999)", x.plan(-1, 999), 0);
        due("count(7)", x.count(7), 0);
        due("behind(0)", x.behind(0), 0);
        due("plan(0, 1)", x.plan(0, 1), 1);
    }

    private static void behind() {
        CommaFreeBooks x = made(3, 2, 1, 2, 5);
        due("behind(0)", x.behind(0), 3);
        due("behind(1)", x.behind(1), 1);
        due("behind(2)", x.behind(2), 1);
        x.plan(0, 3);
        due("behind(0) when 3 comes", x.behind(0), 4);
        due("behind(1) when 3 comes", x.behind(1), 0);
        x.plan(3, 7);
        due("behind(0) when 7 may not", x.behind(0), 4);
        x.plan(1, 3);
        due("behind(0) when 3 goes", x.behind(0), 3);
        due("behind(1) when 3 goes", x.behind(1), 1);
        x.plan(1, 1);
        due("behind(2) when 1 goes", x.behind(2), 2);
        x.plan(2, 8);
        // c a b for a b c: ac bc become cb ab
        due("behind(2) when swapped", x.behind(2), 1);
        x.plan(3, 6);
        due("behind(0) when 6 may", x.behind(0), 3);
        due("behind(1) when 6 may", x.behind(1), 1);
        due("behind(3)", x.behind(3), NONE);
        due("behind(-1)", x.behind(-1), NONE);
        for (int f : FAR) {
            due("behind(" + f + ")", x.behind(f), NONE);
        }
        dueWords("behind all", x, 1, 2, 5);
        due("behind(1) of a book that is not free", made(2, 3, 1, 4).behind(1), 0);
        due("behind(1) of one letter", made(2, 1, 0, 1).behind(1), 1);
        CommaFreeBooks y = made(2, 3, 1);
        y.plan(0, 8);
        y.plan(1, 200);
        y.plan(2, 4);
        y.plan(3, 8);
        y.plan(0, 1);
        y.plan(1, 2);
        due("behind(0) of what is not there", y.behind(0), 1);
        due("behind(2) of what is not there", y.behind(2), 1);
        y.plan(2, 3);
        due("behind(2) swapped", y.behind(2), 3);
        y.plan(1, 3);
        due("behind(0) of none", y.behind(0), 0);
        due("behind(1) of none", y.behind(1), 1);
        due("behind(2) of none", y.behind(2), NOT);
    }

    private static void feed() {
        CommaFreeBooks x = new CommaFreeBooks();
        due("feed(1)", x.feed(1), 1);
        due("feed(127)", x.feed(127), 2);
        due("feed(0)", x.feed(0), BAD);
        due("feed(128)", x.feed(128), BAD);
        due("feed(-1)", x.feed(-1), BAD);
        for (int f : FAR) {
            due("feed(" + f + ")", x.feed(f), BAD);
        }
        for (int i = 3; i <= 60; i++) {
            due("feed(97)", x.feed(97), i);
        }
        due("feed(97) of 60", x.feed(97), FULL);
        due("feed(0) of 60", x.feed(0), BAD);
        due("count(5)", x.count(5), 60);
        due("book()", x.book(), -100);
        due("feed(97)", x.feed(97), 1);
    }

    private static void book() {
        CommaFreeBooks x = made(2, 3, 7);
        due("book() of three", told(x, "bba aab abb"), 3);
        dueWords("as told", x, 1, 3, 6);
        due("clash(0)", x.clash(0), 1);
        List<Long> before = all(x);
        String[] texts = {"", " ", "a", "aab ", "aab  abb", " aab", "aabb", "aab aab", "aac", "aab,abb", "aab abb aab"};
        int[] faults = {0, 0, 1, 4, 4, 0, 3, 6, 2, 3, 10};
        for (int i = 0; i < texts.length; i++) {
            due("book() of '" + texts[i] + "'", told(x, texts[i]), -100 - faults[i]);
            dueWords("behind a fault", x, 1, 3, 6);
        }
        due("the book's part of all", all(x).get(3), before.get(3));
        due("book() of one", told(x, "bbb"), 1);
        dueWords("as told", x, 7);
        x.size(4, 1);
        due("book() of d b", told(x, "d b"), 2);
        dueWords("as told", x, 1, 3);
        due("book() of e", told(x, "e"), -100);
        due("book() of A", told(x, "A"), -100);
        due("book() of d d", told(x, "d d"), -102);
        due("book() of all and one more", told(x, "a b c d a"), -108);
        due("book() of all and a blank", told(x, "a b c d "), -108);
        x.size(2, 5);
        StringBuilder text = new StringBuilder();
        for (int w = 0; w < 10; w++) {
            for (int i = 4; i >= 0; i--) {
                text.append((char) (97 + (w >> i & 1)));
            }
            text.append(' ');
        }
        due("book() of 60 bytes that end too early", told(x, text.toString()), -160);
        due("book() of 59 bytes", told(x, text.substring(0, 59)), 10);
        due("word(9)", x.word(9), 9);
    }

    private static void why() {
        CommaFreeBooks x = made(2, 4);
        due("book()", told(x, "aaab"), 1);
        for (int i = -1; i < 4; i++) {
            due("why(" + i + ") when there is none", x.why(i), NONE);
        }
        dueFault(x, "abb", 3, 0, 3);
        dueFault(x, "aaab aaab", 8, 1, 3);
        dueFault(x, "aaab  aaa", 5, 1, 0);
        dueFault(x, "aaabb", 4, 1, 4);
        dueFault(x, "caaa", 0, 0, 0);
        dueFault(x, "aaab aabb ab", 12, 2, 2);
        dueFault(x, "aaab aabb ", 10, 2, 0);
        dueFault(x, "aaab abz", 7, 1, 2);
        dueFault(x, "", 0, 0, 0);
        dueFault(x, "aaab aabb-", 9, 2, 4);
        due("book() without one", told(x, "aaab aabb"), 2);
        due("why(0) stays", x.why(0), 2);
        due("why(1) stays", x.why(1), 4);
        due("why(2) stays", x.why(2), 9);
        for (int f : FAR) {
            due("why(" + f + ")", x.why(f), NONE);
        }
    }

    private static void write() {
        CommaFreeBooks x = made(3, 3, 26, 5, 0);
        duePaper(x, "aaa abc ccc");
        x.clear();
        due("count(6) stays", x.count(6), 11);
        due("paper(6) stays", x.paper(6), 'c');
        duePaper(x, "");
        x.size(4, 1);
        x.add(3);
        duePaper(x, "d");
        x.size(2, 2);
        x.add(2);
        x.add(1);
        duePaper(x, "ab ba");
        CommaFreeBooks all = made(3, 5);
        for (int w = 0; w < 243; w++) {
            all.add(w);
        }
        due("write() of 243", all.write(), 243 * 6 - 1);
        due("paper(1456)", all.paper(1456), 'c');
        due("paper(1457)", all.paper(1457), NONE);
        CommaFreeBooks most = made(4, 4);
        for (int w = 0; w < 256; w++) {
            most.add(w);
        }
        due("write() of 256", most.write(), 256 * 5 - 1);
        due("paper(1278)", most.paper(1278), 'd');
        due("paper(1274)", most.paper(1274), ' ');
    }

    private static void paper() {
        CommaFreeBooks x = made(2, 3, 1, 6);
        due("paper(0) at first", x.paper(0), NONE);
        x.write();
        String text = "aab bba";
        for (int i = 0; i < text.length(); i++) {
            due("paper(" + i + ")", x.paper(i), text.charAt(i));
        }
        due("paper(7)", x.paper(7), NONE);
        due("paper(-1)", x.paper(-1), NONE);
        for (int f : FAR) {
            due("paper(" + f + ")", x.paper(f), NONE);
        }
    }

    private static void judge() {
        CommaFreeBooks x = made(3, 2, 1, 2, 5);
        due("judge(0) of nothing", x.judge(0), NOTHING);
        due("judge(4)", x.judge(4), NONE);
        due("judge(-1)", x.judge(-1), NONE);
        for (int f : FAR) {
            due("judge(" + f + ")", x.judge(f), NONE);
        }
        x.list(3, 5);
        int[] right = {1, 2, 5, -1, -1};
        for (int i = 0; i < right.length; i++) {
            due("judge(3)", x.judge(3), i);
            x.put(3, i, right[i]);
        }
        due("judge(3)", x.judge(3), -5);
        x.put(3, 4, 0);
        due("judge(3)", x.judge(3), 4);
        x.put(3, 4, -2);
        due("judge(3)", x.judge(3), 4);
        x.list(2, 0);
        due("judge(2) of no ints", x.judge(2), -5);
        x.list(2, 2);
        x.put(2, 0, 1);
        x.put(2, 1, 2);
        due("judge(2) of the first two", x.judge(2), -5);
        x.put(2, 1, 5);
        due("judge(2) in another order", x.judge(2), 1);
        x.clear();
        due("judge(2) of no words", x.judge(2), 0);
    }

    private static void list() {
        CommaFreeBooks x = new CommaFreeBooks();
        for (int l = 0; l < 4; l++) {
            due("list(" + l + ", 12)", x.list(l, 12), 1);
            due("get(" + l + ", 11)", x.get(l, 11), 0);
            due("put(" + l + ", 11, 9)", x.put(l, 11, 9 + l), 1);
        }
        for (int l = 0; l < 4; l++) {
            due("get(" + l + ", 11)", x.get(l, 11), 9 + l);
        }
        due("list(0, 13)", x.list(0, 13), BAD);
        due("list(0, -1)", x.list(0, -1), BELOW);
        due("list(4, 13)", x.list(4, 13), NONE);
        due("list(-1, -1)", x.list(-1, -1), NONE);
        due("list(4, 1)", x.list(4, 1), NONE);
        for (int f : FAR) {
            due("list(" + f + ", 1)", x.list(f, 1), NONE);
            due("list(1, " + f + ")", x.list(1, f), f < 0 ? BELOW : BAD);
        }
        due("get(0, 11) stays", x.get(0, 11), 9);
        due("list(0, 3)", x.list(0, 3), 1);
        due("get(0, 3)", x.get(0, 3), NO);
        due("list(0, 12)", x.list(0, 12), 1);
        due("get(0, 11) is 0 again", x.get(0, 11), 0);
        due("list(0, 0)", x.list(0, 0), 1);
        due("get(0, 0)", x.get(0, 0), NO);
        due("put(0, 0, 1)", x.put(0, 0, 1), BEYOND);
    }

    private static void put() {
        CommaFreeBooks x = new CommaFreeBooks();
        due("put(1, 0, 5) of nothing", x.put(1, 0, 5), NOTHING);
        due("put(4, 0, 5)", x.put(4, 0, 5), NONE);
        due("put(-1, 0, 5)", x.put(-1, 0, 5), NONE);
        x.list(1, 2);
        due("put(1, 0, MIN)", x.put(1, 0, Integer.MIN_VALUE), 1);
        due("put(1, 1, MAX)", x.put(1, 1, Integer.MAX_VALUE), 1);
        due("put(1, 2, 5)", x.put(1, 2, 5), BEYOND);
        due("put(1, -1, 5)", x.put(1, -1, 5), BEYOND);
        for (int f : FAR) {
            due("put(" + f + ", 0, 5)", x.put(f, 0, 5), NONE);
            due("put(1, " + f + ", 5)", x.put(1, f, 5), BEYOND);
            due("put(2, " + f + ", 5)", x.put(2, f, 5), NOTHING);
        }
        due("get(1, 0)", x.get(1, 0), Integer.MIN_VALUE);
        due("get(1, 1)", x.get(1, 1), Integer.MAX_VALUE);
    }

    private static void get() {
        CommaFreeBooks x = new CommaFreeBooks();
        due("get(0, 0) of nothing", x.get(0, 0), NO);
        x.list(0, 2);
        x.list(1, 1);
        x.put(0, 1, -7);
        due("get(0, 1)", x.get(0, 1), -7);
        due("get(0, 0)", x.get(0, 0), 0);
        due("get(0, 2)", x.get(0, 2), NO);
        due("get(0, -1)", x.get(0, -1), NO);
        due("get(4, 0)", x.get(4, 0), NO);
        due("get(-1, 0)", x.get(-1, 0), NO);
        for (int f : FAR) {
            due("get(" + f + ", 0)", x.get(f, 0), NO);
            due("get(0, " + f + ")", x.get(0, f), NO);
        }
    }

    private static void image() {
        CommaFreeBooks x = made(2, 3);
        due("image() of no words", x.image(), 0);
        x.add(1);
        x.add(3);
        List<Long> before = all(x);
        due("image()", x.image(), 2);
        dueSame("image", before, x);
        x.clear();
        due("undo()", x.undo(), 2);
        due("image() behind undo()", x.image(), 2);
        x.add(5);
        due("image()", x.image(), 3);
        x.size(3, 1);
        due("undo() is of the latest", x.undo(), 3);
        dueWords("", x, 1, 3, 5);
    }

    private static void undo() {
        CommaFreeBooks x = full();
        List<Long> before = all(x);
        due("undo()", x.undo(), STATE);
        dueSame("undo without an image", before, x);
        due("image()", x.image(), 3);
        x.size(4, 4);
        x.add(255);
        x.cast(3);
        x.plan(2, 47);
        x.plan(0, 9);
        due("undo()", x.undo(), 3);
        dueSame("undo", before, x);
        due("great(-1, 0) behind undo()", x.great(-1, 0), 6);
        x.clear();
        x.tear(2);
        x.plan(-1, 0);
        x.size(2, 2);
        due("undo() once more", x.undo(), 3);
        dueSame("undo", before, x);
        due("certain(0) behind undo()", x.certain(0), 1);
        due("clash(0) behind undo()", x.clash(0), NOT);
        due("add(0)", x.add(0), 4);
        due("clash(0)", x.clash(0), 0);
        due("undo()", x.undo(), 3);
        dueWords("", x, 1, 2, 5);
        // not LISTS, THE TAPE, THE PAPER, WHY
        x.list(0, 1);
        x.list(1, 1);
        x.book();
        told(x, "ab b");
        x.feed(97);
        x.feed(98);
        x.clear();
        x.write();
        due("undo()", x.undo(), 3);
        due("get(0, 1)", x.get(0, 1), NO);
        due("get(1, 0)", x.get(1, 0), 0);
        due("why(2)", x.why(2), 4);
        due("count(5)", x.count(5), 2);
        due("count(6)", x.count(6), 0);
    }

    private static void count() {
        CommaFreeBooks x = full();
        int[] counts = {3, 2, 9, 3, 4, 1, 8, 1, 12};
        for (int i = 0; i < counts.length; i++) {
            due("count(" + i + ")", x.count(i), counts[i]);
        }
        due("count(9)", x.count(9), BAD);
        due("count(-1)", x.count(-1), BAD);
        for (int f : FAR) {
            due("count(" + f + ")", x.count(f), BAD);
        }
        x.size(4, 1);
        due("count(8)", x.count(8), 48);
        x.size(2, 1);
        due("count(8)", x.count(8), 4);
    }

    private static void words() {
        promise = 2;
        size();
        promise = 3;
        add();
        promise = 4;
        drop();
        promise = 5;
        clear();
        promise = 6;
        word();
        promise = 7;
        letter();
        promise = 8;
        hides();
        promise = 9;
        clash();
        promise = 10;
        may();
        promise = 11;
        mays();
    }

    private static void ringsSwapsStrip() {
        promise = 12;
        ring();
        promise = 13;
        bound();
        promise = 14;
        great();
        promise = 15;
        swapped();
        promise = 16;
        swap();
        promise = 17;
        keeps();
        promise = 18;
        cast();
        promise = 19;
        spell();
        promise = 20;
        tear();
        promise = 21;
        possible();
        promise = 22;
        certain();
        promise = 23;
        delay();
    }

    private static void plansTextsLists() {
        promise = 24;
        odds();
        promise = 25;
        plan();
        promise = 26;
        behind();
        promise = 27;
        feed();
        promise = 28;
        book();
        promise = 29;
        why();
        promise = 30;
        write();
        promise = 31;
        paper();
        promise = 32;
        judge();
        promise = 33;
        list();
        promise = 34;
        put();
        promise = 35;
        get();
        promise = 36;
        image();
        promise = 37;
        undo();
        promise = 38;
        count();
    }

    public static void main(String[] args) {
        promise = 1;
        aNewObject();
        words();
        ringsSwapsStrip();
        plansTextsLists();
        System.out.println(wrong == 0 ? "all promises hold" : wrong + " answers are not as due");
        if (wrong != 0) {
            System.exit(1);
        }
    }
}

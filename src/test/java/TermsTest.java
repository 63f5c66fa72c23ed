import java.io.IOException;
import java.util.Arrays;

/** The sentences of 'Terms', part 1 to 3, that name a boundary case. */
public final class TermsTest extends Sentences {
    /** All letters and lengths that there can be, each with SIZE and BOUND. */
    private static final int[][] ALPHABETS = {{2, 1, 2, 2}, {2, 2, 4, 1}, {2, 3, 8, 2}, {2, 4, 16, 3}, {2, 5, 32, 6},
        {3, 1, 3, 3}, {3, 2, 9, 3}, {3, 3, 27, 8}, {3, 4, 81, 18}, {3, 5, 243, 48},
        {4, 1, 4, 4}, {4, 2, 16, 6}, {4, 3, 64, 20}, {4, 4, 256, 60}};
    /** Those of SIZE 32 at most: letters, length, how many greatest books, how many words each, how many kinds. */
    private static final int[][] SMALL = {{2, 1, 1, 2, 1}, {2, 2, 2, 1, 1}, {2, 3, 8, 2, 3}, {2, 4, 28, 3, 8},
        {2, 5, 86, 6, 25}, {3, 1, 1, 3, 1}, {3, 2, 6, 3, 1}, {3, 3, 42, 8, 5}, {4, 1, 1, 4, 1}, {4, 2, 36, 5, 2}};

    /** Letters, length, DELAY, and the words of a book: each found by going through all rows of letters. */
    private static final int[][] DELAYS = {
        {2, 2, NOT, 0, 1, 2, 3}, {2, 2, 1, 2}, {2, 3, NOT, 0, 2, 6, 7}, {2, 3, 2, 2}, {2, 3, 3, 1, 5}, {2, 3, 4, 3, 4},
        {2, 4, NOT, 10, 12, 15}, {2, 4, 2, 3}, {2, 4, 3, 13}, {2, 4, 3, 1, 7}, {2, 4, 4, 1, 9}, {2, 4, 5, 3, 8},
        {2, 4, 6, 2, 3, 7}, {2, 4, 7, 1, 11, 12}, {2, 4, 8, 4, 9}, {2, 4, 9, 2, 9, 13}, {2, 4, 10, 7, 8, 12},
        {2, 5, NOT, 5, 11, 22}, {2, 5, 3, 28}, {2, 5, 4, 8, 14}, {2, 5, 5, 1, 5, 23}, {2, 5, 6, 6, 28},
        {2, 5, 7, 3, 20, 25}, {2, 5, 8, 6, 7, 9}, {2, 5, 8, 10, 16, 24}, {2, 5, 9, 4, 6, 19},
        {2, 5, 10, 19, 20, 23, 26}, {2, 5, 11, 8, 17, 26}, {2, 5, 12, 6, 8, 27},
        {3, 2, NOT, 2, 4}, {3, 2, 1, 3}, {3, 2, 2, 5, 6}, {3, 3, NOT, 4, 8, 10}, {3, 3, 1, 7}, {3, 3, 2, 14},
        {3, 3, 3, 6, 9}, {3, 3, 3, 1, 22, 24}, {3, 3, 3, 2, 5, 12}, {3, 3, 4, 6, 7, 14}, {3, 3, 5, 4, 14, 25},
        {3, 3, 6, 5, 12, 17, 20}, {3, 3, 7, 6, 11, 22}, {3, 3, 8, 1, 15, 18, 25}, {3, 3, 10, 8, 11, 15, 25},
        {4, 2, NOT, 10}, {4, 2, 1, 11}, {4, 2, 2, 3, 4, 6, 7}, {4, 2, 3, 1, 7, 8}};

    private interface Each {
        void of(CommaFreeBooks x, int q, int n, int size);
    }

    private static void each(Each test) {
        for (int[] a : ALPHABETS) {
            test.of(made(a[0], a[1]), a[0], a[1], a[2]);
        }
    }

    // ---- 1: letters, words, the book

    private void letters() {
        sentence("q of them, 0 .. q less 1 (2 .. 4; 2 at first)", () -> {
            due("count(0) at first", new CommaFreeBooks().count(0), 2);
            for (int q = 2; q <= 4; q++) {
                CommaFreeBooks x = made(q, 1);
                due("count(0) of " + q, x.count(0), q);
                due("the first letter of " + q, x.cast(0), 1);
                due("the last letter of " + q, x.cast(q - 1), 2);
                due("one above the last of " + q, x.cast(q), BAD);
                due("one below the first of " + q, x.cast(-1), BAD);
            }
            due("1 letter", new CommaFreeBooks().size(1, 1), BAD);
            due("5 letters", new CommaFreeBooks().size(5, 1), BAD);
        });
        sentence("written a, b, c, d", () -> {
            CommaFreeBooks x = filled(4, 1);
            x.write();
            duePaper("of all letters", x, "a b c d");
            due("book() of them", told(x, "d c b a"), 4);
        });
        sentence("LENGTH n (1 .. 5; 3 at first)", () -> {
            due("count(1) at first", new CommaFreeBooks().count(1), 3);
            for (int n = 1; n <= 5; n++) {
                CommaFreeBooks x = made(2, n);
                due("count(1) of " + n, x.count(1), n);
                due("the last letter's place", x.letter(1, n - 1), 1);
                due("no place behind it", x.letter(1, n), NONE);
            }
            due("length 0", new CommaFreeBooks().size(2, 0), BAD);
            due("length 6", new CommaFreeBooks().size(2, 6), BAD);
        });
        sentence("q times itself, n times, is 256 at most", () -> {
            due("4 to the power of 4", new CommaFreeBooks().size(4, 4), 256);
            due("3 to the power of 5", new CommaFreeBooks().size(3, 5), 243);
            due("4 to the power of 5", new CommaFreeBooks().size(4, 5), BAD);
        });
    }

    private void words() {
        sentence("figures to the base q, the first letter the highest (0 .. SIZE less 1, SIZE being how many there are)", () -> {
            CommaFreeBooks x = made(3, 3, 5);
            due("letter(5, 0)", x.letter(5, 0), 0);
            due("letter(5, 1)", x.letter(5, 1), 1);
            due("letter(5, 2)", x.letter(5, 2), 2);
            x.write();
            duePaper("of 5", x, "abc");
            told(x, "cab");
            due("word(0) of cab", x.word(0), 19);
            each((y, q, n, size) -> {
                due("count(2) of " + q + ", " + n, y.count(2), size);
                due("the first word", y.add(0), 1);
                due("the last word", y.add(size - 1), 2);
                due("one above the last", y.add(size), NONE);
                due("one below the first", y.add(-1), NONE);
                for (int i = 0; i < n; i++) {
                    due("letter " + i + " of the first", y.letter(0, i), 0);
                    due("letter " + i + " of the last", y.letter(size - 1, i), q - 1);
                }
            });
        });
        sentence("unlike WORDS (none at first), by their numbers, rising", () -> {
            CommaFreeBooks x = new CommaFreeBooks();
            due("count(3) at first", x.count(3), 0);
            due("word(0) at first", x.word(0), NOT);
            x.add(7);
            x.add(0);
            x.add(4);
            due("add(4) once more", x.add(4), STATE);
            dueWords("told from the last", x, 0, 4, 7);
            told(x, "bbb aab bab");
            dueWords("told by a text", x, 1, 5, 7);
            x.swap(2);
            dueWords("swapped", x, 0, 2, 6);
            CommaFreeBooks all = made(4, 4);
            for (int w = 255; w >= 0; w--) {
                all.add(w);
            }
            for (int w = 0; w < 256; w += 5) {
                due("word(" + w + ") of all", all.word(w), w);
            }
        });
    }

    private void hiding() {
        sentence("at k (1 .. n less 1)", () -> {
            for (int n = 1; n <= 5; n++) {
                CommaFreeBooks x = made(3, n);
                int last = x.count(2) - 1;
                due("a word of one letter in itself twice, length " + n, x.hides(last, last, last), (1 << n) - 2);
            }
            CommaFreeBooks x = made(2, 3);
            due("a word at its own beginning", x.hides(1, 6, 1), 0);
            due("a word as the one behind", x.hides(6, 3, 3), 0);
        });
        sentence("u and v are written one behind the other, and the n letters from place k on (from 0) are w", () -> {
            CommaFreeBooks x = made(3, 4);
            // cabb (58) and abca (15): cabbabca
            due("abba, from place 1", x.hides(58, 15, 12), 2);
            due("bbab, from place 2", x.hides(58, 15, 37), 4);
            due("babc, from place 3", x.hides(58, 15, 32), 8);
            due("cabb, from place 0", x.hides(58, 15, 58), 0);
            due("abca, from place 4", x.hides(58, 15, 15), 0);
            due("abba in abcacabb", x.hides(15, 58, 12), 0);
        });
        sentence("if no WORD of it HIDES in two of it (these may be the same one; so may all three)", () -> {
            due("no words", made(2, 3).clash(0), NOT);
            due("aab and aba, in aab aab", made(2, 3, 1, 2).clash(0), 1);
            due("aaa in aaa aaa", made(2, 3, 0).clash(0), 0);
            due("abab in itself twice", made(2, 4, 5).clash(0), 5);
            due("aab alone", made(2, 3, 1).clash(0), NOT);
            due("aab abb", made(2, 3, 1, 3).clash(0), NOT);
            due("acccc and cccca", made(3, 5, 80, 240).clash(0), 80);
            due("dddc and ddcd", made(4, 4, 254, 251).clash(0), 251);
            for (int q = 2; q <= 4; q++) {
                due("all words of one letter", filled(q, 1).clash(0), NOT);
            }
        });
        sentence("the first u, v, k (by u, then v, then k) by which a WORD of it does", () -> {
            dueClash("of aaa, both places", made(2, 3, 0), 0, 0, 1, 0);
            dueClash("of aab aba baa, both places", made(2, 3, 1, 2, 4), 1, 1, 1, 2);
            dueClash("of aab baa, the second place", made(2, 3, 1, 4), 1, 1, 2, 4);
            dueClash("of aba bab, the second v", made(2, 3, 2, 5), 2, 5, 1, 5);
            // ab bc ca: bc in ab ca, ca in bc ab, ab in ca bc; the first v with which it does is the last word
            dueClash("of ab bc ca, the third v", made(3, 2, 1, 5, 6), 1, 6, 1, 5);
            dueClash("of ab cc, the second u", made(3, 2, 1, 8), 8, 8, 1, 8);
            // abaa hides in abaa baaa too, but baaa has gone
            CommaFreeBooks gone = made(2, 4, 4, 5, 8);
            dueClash("of abaa abab baaa", gone, 4, 4, 1, 8);
            gone.drop(8);
            dueClash("of abaa abab, when baaa has gone", gone, 5, 4, 2, 5);
            dueClash("of abcd dddd, the last place", made(4, 4, 27, 255), 27, 255, 3, 255);
        });
    }

    private void rings() {
        sentence("TURNED is a WORD whose first letter goes to its end", () -> {
            CommaFreeBooks x = made(3, 3);
            due("abc", x.ring(5, 3), 15);
            due("caa", x.ring(18, 3), 2);
            due("ccc", x.ring(26, 3), 26);
            due("aaa", x.ring(0, 3), 0);
            due("one letter", made(4, 1).ring(3, 3), 3);
        });
        sentence("all that come of it so, over and over; its LEAST", () -> {
            CommaFreeBooks x = made(2, 4);
            due("how many of aaaa", x.ring(0, 0), 1);
            due("how many of abab", x.ring(5, 0), 2);
            due("how many of baaa", x.ring(8, 0), 4);
            due("least of baaa, three turns on", x.ring(8, 1), 1);
            due("least of aaab, its own", x.ring(1, 1), 1);
            due("least of baba", x.ring(10, 1), 5);
            due("least of bbbb", x.ring(15, 1), 15);
        });
        sentence("It is WHOLE, if n unlike ones are in it", () -> {
            CommaFreeBooks x = made(2, 4);
            due("aaaa", x.ring(0, 2), NOT);
            due("abab", x.ring(5, 2), NOT);
            due("bbbb", x.ring(15, 2), NOT);
            due("aaab", x.ring(1, 2), 0);
            due("bbba", x.ring(14, 2), 2);
            for (int q = 2; q <= 4; q++) {
                due("the last of one letter", made(q, 1).ring(q - 1, 2), q - 1);
            }
        });
        sentence("BOUND: how many WHOLE RINGS there are", () -> {
            for (int[] a : ALPHABETS) {
                due("bound(-1) of " + a[0] + ", " + a[1], made(a[0], a[1]).bound(-1), a[3]);
            }
        });
        sentence("They are numbered from 0 by their LEAST, rising", () -> {
            for (int[] a : ALPHABETS) {
                CommaFreeBooks x = made(a[0], a[1]);
                int ahead = -1;
                for (int i = 0; i < a[3]; i++) {
                    int least = x.bound(i);
                    due("bound(" + i + ") is above the one ahead", least > ahead ? 1 : 0, 1);
                    due("the number of the ring of " + least, x.ring(least, 2), i);
                    due("the least of the ring of " + least, x.ring(least, 1), least);
                    ahead = least;
                }
            }
        });
        sentence("A WORD MAY come, if it is not in THE BOOK, and THE BOOK with it would be FREE", () -> {
            due("one that is in it, of one letter", made(2, 1, 0).may(0), 0);
            due("one that is in it", made(2, 3, 1).may(1), 0);
            due("one that hides in itself twice", made(2, 3).may(7), 0);
            due("one that hides in two there", made(2, 3, 1).may(2), 0);
            due("one with which one that is there hides", made(3, 2, 1, 5).may(6), 0);
            due("one that hides none and is hidden by none", made(2, 3, 1).may(3), 1);
            due("any, when it is not free", made(2, 3, 0).may(3), 0);
            due("any that is there, when it is not free", made(2, 3, 0).may(0), 0);
            due("one that hides by the last four letters there are", made(3, 5, 80).may(240), 0);
            due("one that hides by the first four letters there are", made(3, 5, 240).may(80), 0);
            due("the last that there is", made(2, 1, 0).may(1), 1);
        });
    }

    // ---- 1: greatest books, swaps

    private void greatest() {
        sentence("GREATEST (SIZE 32 at most)", () -> each((x, q, n, size) ->
            due("great(-1, 0) of SIZE " + size, x.great(-1, 0) == STATE ? 1 : 0, size > 32 ? 1 : 0)));
        sentence("FREE books with most WORDS", () -> {
            for (int[] s : SMALL) {
                CommaFreeBooks x = made(s[0], s[1]);
                due("how many of " + s[0] + ", " + s[1], x.great(-1, 0), s[2]);
                due("how many words each", x.great(-2, 0), s[3]);
                for (int i = 0; i < s[2]; i++) {
                    CommaFreeBooks one = greatOne(s, i);
                    due("book " + i + ", its words", one.count(3), s[3]);
                    due("book " + i + ", its clash", one.clash(0), NOT);
                }
            }
        });
        sentence("in order of what they have of RING 0 (its WORDS by numbers, none behind all), of like ones of RING 1, and so on", () -> {
            for (int[] s : SMALL) {
                for (int i = 1; i < s[2]; i++) {
                    CommaFreeBooks x = made(s[0], s[1]);
                    due("book " + i + " stands behind the one ahead", isBehind(x, i) ? 1 : 0, 1);
                }
            }
            CommaFreeBooks x = made(4, 2);
            due("ring 0 of the first", x.great(0, 0), 1);
            due("ring 5 of the first: none", x.great(0, 5), NONE);
            due("ring 0 of the last: none", x.great(35, 0), NONE);
            due("ring 5 of the last", x.great(35, 5), 14);
        });
        sentence("no FREE book has two of one RING, or one of a RING that isn't WHOLE", () -> {
            CommaFreeBooks x = made(3, 3);
            for (int w = 0; w < 27; w++) {
                boolean whole = x.ring(w, 2) != NOT;
                due("may(" + w + ")", x.may(w), whole ? 1 : 0);
                if (whole) {
                    CommaFreeBooks one = made(3, 3, w);
                    due("it turned", one.may(one.ring(w, 3)), 0);
                    due("it turned twice", one.may(one.ring(one.ring(w, 3), 3)), 0);
                }
            }
        });
    }

    private static CommaFreeBooks greatOne(int[] s, int i) {
        CommaFreeBooks x = made(s[0], s[1]);
        int rings = x.bound(-1);
        for (int k = 0; k < rings; k++) {
            int w = x.great(i, k);
            if (w != NONE && x.ring(w, 2) == k) {
                x.add(w);
            }
        }
        return x;
    }

    private static boolean isBehind(CommaFreeBooks x, int i) {
        int rings = x.bound(-1);
        for (int k = 0; k < rings; k++) {
            int ahead = x.great(i - 1, k);
            int here = x.great(i, k);
            if (ahead != here) {
                return here == NONE || ahead != NONE && ahead < here;
            }
        }
        return false;
    }

    private void swaps() {
        sentence("ORDERS of all letters (what each becomes, letter 0 first) are numbered from 0, as rows, the least first", () -> {
            // the word of all letters, each once, becomes the order itself
            int[] of2 = {1, 2};
            for (int j = 0; j < 2; j++) {
                due("order " + j + " of 2", made(2, 2).swapped(2 * j, 1), of2[j]);
            }
            int[] of3 = {5, 7, 11, 15, 19, 21};
            for (int j = 0; j < 6; j++) {
                due("order " + j + " of 3", made(3, 3).swapped(2 * j, 5), of3[j]);
            }
            int[] of4 = {27, 30, 39, 45, 54, 57, 75, 78, 99, 108, 114, 120, 135, 141, 147, 156, 177, 180,
                198, 201, 210, 216, 225, 228};
            for (int j = 0; j < 24; j++) {
                due("order " + j + " of 4", made(4, 4).swapped(2 * j, 27), of4[j]);
            }
        });
        sentence("then each WORD is written from its end", () -> {
            CommaFreeBooks x = made(4, 4);
            due("abcd mirrored alone", x.swapped(1, 27), 228);
            due("abcd by the last order", x.swapped(46, 27), 228);
            due("abcd by the last swap", x.swapped(47, 27), 27);
            due("aaab by the order dabc", x.swapped(36, 1), 252);
            due("aaab by the order dabc, mirrored", x.swapped(37, 1), 63);
            due("a word of one letter", made(4, 1).swapped(1, 3), 3);
        });
        sentence("A SWAP KEEPS THE BOOK, if THE BOOK with each WORD so SWAPPED is the same", () -> {
            each((x, q, n, size) -> {
                due("no words", x.keeps(-1), x.count(8));
                due("the swap 0", x.keeps(0), 0);
            });
            due("all words", filled(3, 2).keeps(-1), 12);
            due("aab", made(2, 3, 1).keeps(-1), 1);
            due("aab and all that it becomes", made(2, 3, 1, 4, 6, 3).keeps(-1), 4);
            due("aab and one that it becomes", made(2, 3, 1, 3).keeps(1), 3);
        });
    }

    // ---- 2: the strip

    private void strip() {
        sentence("a row of letters (40 at most; none at first)", () -> {
            CommaFreeBooks x = new CommaFreeBooks();
            due("count(4) at first", x.count(4), 0);
            for (int i = 1; i <= 40; i++) {
                due("letter " + i, x.cast(1), i);
            }
            due("letter 41", x.cast(1), FULL);
            due("count(4) behind it", x.count(4), 40);
            due("possible(40) without words", x.possible(40), 0);
        });
        sentence("An OFFSET r (0 .. n less 1)", () -> each((x, q, n, size) ->
            due("all that there are, of " + q + ", " + n, x.possible(0), (1 << n) - 1)));
        sentence("letter j of it (from 0) is taken to stand at place (j less r) modulo n of a WORD", () -> {
            String[] rows = {"a", "b", "c", "d", "e"};
            int[] offsets = {0, 3, 2, 1};
            for (int i = 0; i < 4; i++) {
                CommaFreeBooks x = made(4, 4, 27);
                cast(x, rows[i]);
                due(rows[i] + " of abcd", x.possible(1), 1 << offsets[i]);
            }
            String row = "abcdabcdabcd";
            for (int from = 0; from < 4; from++) {
                CommaFreeBooks x = made(4, 4, 27);
                cast(x, row.substring(from));
                due("from letter " + from + " on", x.possible(12 - from), 1 << offsets[from]);
            }
        });
        sentence("each letter at place 0 beginning another one; there are WORDS of THE BOOK, one for each such stretch", () -> {
            CommaFreeBooks x = made(3, 2, 1, 2);
            cast(x, "abacab");
            due("unlike words one behind the other", x.possible(6), 1);
            // a as the first of abc, c as the second of bca: no one word has both
            CommaFreeBooks y = made(3, 3, 5, 15);
            cast(y, "ac");
            due("a stretch of two words' letters", y.possible(2) & 1, 0);
            CommaFreeBooks z = made(3, 3, 5);
            cast(z, "abcabb");
            due("all but the last letter", z.possible(5), 1);
            due("the last letter too", z.possible(6), 0);
        });
        sentence("(the first and the last may lack letters)", () -> {
            CommaFreeBooks x = made(4, 4, 27);
            cast(x, "dabc");
            due("the first lacks three, the last one", x.possible(4), 2);
            CommaFreeBooks y = made(4, 4, 27);
            cast(y, "bc");
            due("one lacks its front and its end", y.possible(2), 8);
            CommaFreeBooks z = made(4, 4, 27);
            cast(z, "bd");
            due("one in the middle lacks none", z.possible(2), 0);
        });
        sentence("(For a row of no letters all OFFSETS are POSSIBLE.)", () -> {
            due("no words", made(2, 5).possible(0), 31);
            due("a word", made(2, 3, 1).possible(0), 7);
            CommaFreeBooks x = made(2, 3, 0);
            cast(x, "bb");
            due("a strip for which none is", x.possible(0), 7);
        });
    }

    private void certainAndDelay() {
        sentence("the least k (1 on) such that for the first k letters of THE STRIP just one OFFSET is POSSIBLE", () -> {
            CommaFreeBooks one = made(2, 1, 0);
            due("no letters, though there is but one offset", one.certain(0), NOT);
            one.cast(0);
            due("one letter", one.certain(0), 1);
            CommaFreeBooks none = made(2, 1, 0);
            none.cast(1);
            due("one letter for which none is", none.certain(0), NOT);
            CommaFreeBooks two = made(2, 3, 1);
            cast(two, "a");
            due("two offsets", two.certain(0), NOT);
            cast(two, "a");
            due("one is left", two.certain(0), 2);
            cast(two, "b");
            due("and stays", two.certain(0), 2);
            cast(two, "b");
            due("though none is behind it", two.possible(4), 0);
            due("it was once", two.certain(0), 2);
            CommaFreeBooks atOnce = made(2, 2, 0);
            cast(atOnce, "aab");
            due("two, then none", atOnce.certain(0), NOT);
            CommaFreeBooks last = made(2, 2, 0, 1);
            cast(last, "a".repeat(39));
            due("39 letters of doubt", last.certain(0), NOT);
            last.cast(1);
            due("the last letter that has room", last.certain(0), 40);
            due("its offset", last.certain(1), 0);
        });
        sentence("DELAY (SIZE 32 at most)", () -> each((x, q, n, size) ->
            due("delay() of SIZE " + size, x.delay(), size > 32 ? STATE : 1)));
        sentence("the least k (1 .. 12) such that for no row of k letters two OFFSETS are POSSIBLE", () -> {
            for (int[] d : DELAYS) {
                int[] words = Arrays.copyOfRange(d, 3, d.length);
                due("that of " + Arrays.toString(d), made(d[0], d[1], words).delay(), d[2]);
            }
            due("1", made(2, 2, 1).delay(), 1);
            due("2", made(2, 3, 1).delay(), 2);
            due("11", made(2, 5, 3, 9, 26).delay(), 11);
            due("12", made(2, 5, 19, 20, 30).delay(), 12);
            due("13", made(2, 5, 10, 12, 25, 30).delay(), NOT);
            due("14", made(2, 5, 7, 10, 16, 17).delay(), NOT);
            due("never", made(2, 2, 0).delay(), NOT);
            due("one offset alone", filled(4, 1).delay(), 1);
            due("no words", made(3, 3).delay(), 1);
        });
    }

    // ---- 2: draws, plans

    private void draws() {
        sentence("v WORDS (1 .. 12)", () -> {
            CommaFreeBooks x = made(2, 2);
            due("0", x.odds(0, 1, 1, 0), NO);
            due("1: ba", x.odds(1, 1, 1, 0), 1);
            due("12", x.odds(12, 1, 1, 0), 0);
            due("13", x.odds(13, 1, 1, 0), NO);
        });
        sentence("for each z becomes z * 1103515245 + 12345 (an int; SEED at first)", () -> {
            // of SIZE 9 and 243 the words tell whether z was wrapped around
            due("above, from the greatest int", made(3, 2).odds(1, MAX, 30, 0), 2);
            due("below, from the greatest int", made(3, 2).odds(1, MAX, 30, 1), 3);
            due("above, from the least int", made(3, 2).odds(1, MIN, 30, 0), 7);
            due("below, from the least int", made(3, 2).odds(1, MIN, 30, 1), 10);
            due("above, two words", made(3, 2).odds(2, 0, 30, 0), 13);
            due("below, two words", made(3, 2).odds(2, 0, 30, 1), 30);
            due("above, of SIZE 243", made(3, 5).odds(2, -1, 30, 0), 4);
            due("below, of SIZE 243", made(3, 5).odds(2, -1, 30, 1), 5);
        });
        sentence("the WORD is (z >>> 16) % SIZE (those told again count once)", () -> {
            // by seed 1 ba comes twice, by seed 0 aa; by -2 bb and ba
            due("ba and ba", made(2, 2).odds(2, 1, 1, 0), 1);
            due("aa and aa", made(2, 2).odds(2, 0, 1, 0), 0);
            due("above, of SIZE 256", made(4, 4).odds(2, -1, 30, 0), 13);
            due("below, of SIZE 256", made(4, 4).odds(2, -1, 30, 1), 15);
            due("a z that is below 0", made(3, 2).odds(1, -1, 1, 0), 1);
            due("twelve of two words of one letter", made(2, 1).odds(12, 9, 30, 0), 1);
        });
        sentence("of m SEEDS (1 .. 30), SEED and each 1 more (an int)", () -> {
            CommaFreeBooks x = made(2, 2);
            due("0 seeds", x.odds(1, 1, 0, 0), NO);
            due("1 seed, above", x.odds(1, 1, 1, 0), 1);
            due("1 seed, below", x.odds(1, 1, 1, 1), 1);
            due("30 seeds, above", x.odds(1, 0, 30, 0), 7);
            due("30 seeds, below", x.odds(1, 0, 30, 1), 15);
            due("31 seeds", x.odds(1, 1, 31, 0), NO);
            // the greatest int draws ab, 1 more, the least one, aa
            due("around the greatest int, above", x.odds(1, MAX, 2, 0), 1);
            due("around the greatest int, below", x.odds(1, MAX, 2, 1), 2);
            due("around -1, above", x.odds(1, -1, 2, 0), 1);
            due("around -1, below", x.odds(1, -1, 2, 1), 2);
        });
    }

    private void plans() {
        sentence("ROWS told by hand (8 at most)", () -> {
            CommaFreeBooks x = made(4, 1);
            for (int i = 1; i <= 8; i++) {
                due("row " + i, x.plan(0, i % 4), i);
            }
            due("row 9", x.plan(0, 0), FULL);
            due("count(7)", x.count(7), 8);
            due("all eight are done", x.behind(0), 4);
            CommaFreeBooks y = made(4, 1);
            for (int i = 0; i < 7; i++) {
                y.plan(1, 3);
            }
            y.plan(0, 3);
            due("the eighth is done", y.behind(2), 3);
        });
        sentence("0 WORD v (0 .. 255) comes, if there is such a WORD", () -> {
            dueBehind("the last word", made(2, 3), 0, 7, 1, 7);
            dueBehind("one above the last", made(2, 3), 0, 8, 0, NOT);
            dueBehind("255 of 8", made(2, 3), 0, 255, 0, NOT);
            dueBehind("255 of 256", made(4, 4), 0, 255, 1, 255);
            dueBehind("0", made(2, 3), 0, 0, 1, 0);
            dueBehind("one that is there", made(2, 3, 3), 0, 3, 1, 3);
            due("-1", made(4, 4).plan(0, -1), BAD);
            due("256", made(4, 4).plan(0, 256), BAD);
        });
        sentence("1 it goes likewise", () -> {
            dueBehind("the last word", made(2, 3, 7), 1, 7, 0, NOT);
            dueBehind("one above the last", made(2, 3, 7), 1, 8, 1, 7);
            dueBehind("255 of 256", made(4, 4, 254, 255), 1, 255, 1, 254);
            dueBehind("one that is not there", made(2, 3, 3), 1, 4, 1, 3);
            dueBehind("one of no words", made(2, 3), 1, 4, 0, NOT);
            due("-1", made(4, 4).plan(1, -1), BAD);
            due("256", made(4, 4).plan(1, 256), BAD);
        });
        sentence("2 SWAP v (0 .. 47), if there is such a one", () -> {
            dueBehind("the last swap of 2 letters", made(2, 3, 1), 2, 3, 1, 3);
            dueBehind("one above it", made(2, 3, 1), 2, 4, 1, 1);
            dueBehind("47 of 4", made(2, 3, 1), 2, 47, 1, 1);
            dueBehind("47 of 48", made(4, 4, 255, 254), 2, 47, 2, 0);
            dueBehind("no words swapped", made(4, 4), 2, 47, 0, NOT);
            due("-1", made(4, 4).plan(2, -1), BAD);
            due("48", made(4, 4).plan(2, 48), BAD);
        });
        sentence("3 WORD v comes, if it MAY then", () -> {
            dueBehind("one that may", made(2, 3, 1), 3, 3, 2, 1);
            dueBehind("one that may not", made(2, 3, 1), 3, 2, 1, 1);
            dueBehind("one that is there", made(2, 3, 1), 3, 1, 1, 1);
            dueBehind("one above the last", made(2, 3, 1), 3, 8, 1, 1);
            dueBehind("255 of 8", made(2, 3), 3, 255, 0, NOT);
            due("256", made(4, 4).plan(3, 256), BAD);
            CommaFreeBooks x = made(2, 3, 1);
            x.plan(3, 2);
            x.plan(1, 1);
            due("not yet when its row comes", x.behind(0), 0);
            x.plan(3, 2);
            due("behind the row by which it may", x.behind(2), 2);
            x.plan(3, 1);
            due("no more behind that", x.behind(0), 1);
        });
        sentence("BEHIND: as it is behind all of it", () -> {
            CommaFreeBooks x = made(2, 3);
            x.plan(0, 0);
            due("one row", x.behind(1), 0);
            x.plan(1, 0);
            due("two rows", x.behind(1), 1);
            due("THE BOOK has none of it", x.count(3), 0);
            CommaFreeBooks none = made(2, 3, 0);
            due("no rows", none.behind(1), 0);
        });
    }

    /** How many words and which least one a plan of one row leaves. */
    private void dueBehind(String which, CommaFreeBooks x, int what, int v, int words, int least) {
        due("plan(" + what + ", " + v + "), " + which, x.plan(what, v), 1);
        due("behind(0), " + which, x.behind(0), words);
        due("behind(2), " + which, x.behind(2), least);
    }

    // ---- 2: the tape

    private void dueFault(String which, CommaFreeBooks x, String text, int fault) {
        due("book() of '" + text + "', " + which, told(x, text), -100 - fault);
    }

    private void tape() {
        sentence("THE TAPE (60 bytes at most) tells a book", () -> {
            CommaFreeBooks x = new CommaFreeBooks();
            for (int i = 1; i <= 60; i++) {
                due("byte " + i, x.feed(127), i);
            }
            due("byte 61", x.feed(127), FULL);
            due("count(5)", x.count(5), 60);
            CommaFreeBooks y = made(2, 5);
            due("ten words, 59 bytes", told(y, tenWords()), 10);
            dueFault("ten words and a blank, 60 bytes", y, tenWords() + " ", 60);
        });
        sentence("WORDS, one or more, with one blank between, each n letters (a, b, .. those there are)", () -> {
            due("one", told(made(2, 3), "bab"), 1);
            due("two", told(made(2, 3), "bab aab"), 2);
            dueFault("none", made(2, 3), "", 0);
            dueFault("a blank alone", made(2, 3), " ", 0);
            dueFault("a blank ahead", made(2, 3), " bab", 0);
            dueFault("two blanks", made(2, 3), "bab  aab", 4);
            dueFault("no blank", made(2, 3), "babaab", 3);
            dueFault("another byte for the blank", made(2, 3), "bab\taab", 3);
            dueFault("too few letters", made(2, 3), "ba aab", 2);
            for (int q = 2; q <= 4; q++) {
                CommaFreeBooks x = made(q, 1);
                due("the last letter of " + q, told(x, "" + (char) (96 + q)), 1);
                dueFault("one above it", x, "" + (char) (97 + q), 0);
                dueFault("one below a", x, "`", 0);
                dueFault("a great letter", x, "A", 0);
            }
        });
        sentence("the place (from 0) of the first byte with which no such text goes on", () -> {
            dueFault("the first byte", made(2, 3), "cab", 0);
            dueFault("the last byte of a word", made(2, 3), "aac", 2);
            dueFault("right behind a word", made(2, 3), "aab,", 3);
            dueFault("the first of the next", made(2, 3), "aab c", 4);
            dueFault("one below a, as the first", made(2, 3), "`ab", 0);
            dueFault("one below a, as the last", made(2, 3), "ba`", 2);
            dueFault("the first of two wrong ones", made(2, 3), "aacc", 2);
            dueFault("the last of 60", made(2, 5), tenWords() + "a", 59);
        });
        sentence("or of the last letter of a WORD that was told already", () -> {
            dueFault("the second", made(2, 3), "aab aab", 6);
            dueFault("the third, as the first", made(2, 3), "aab abb aab", 10);
            dueFault("a fault behind it is none yet", made(2, 3), "aab aabb", 6);
            dueFault("one of one letter", made(2, 1), "a a", 2);
            dueFault("two letters of it alone", made(2, 3), "aab aa", 6);
            due("one that is in THE BOOK, but not told", told(made(2, 3, 1), "aab"), 1);
            dueFault("the tenth, at 58", made(2, 5), tenWords().substring(0, 54) + "aaaaa", 58);
        });
        sentence("the length, if it ends too early", () -> {
            dueFault("nothing", made(2, 3), "", 0);
            dueFault("a letter", made(2, 3), "a", 1);
            dueFault("all but the last letter", made(2, 3), "ab", 2);
            dueFault("a blank", made(2, 3), "aba ", 4);
            dueFault("a part of the second", made(2, 3), "aba bb", 6);
        });
    }

    private static String tenWords() {
        StringBuilder text = new StringBuilder();
        for (int w = 0; w < 10; w++) {
            text.append(w > 0 ? " " : "");
            for (int i = 4; i >= 0; i--) {
                text.append((char) ('a' + (w >> i & 1)));
            }
        }
        return text.toString();
    }

    private void reasons() {
        sentence("(none at first; it stays behind a book() without one)", () -> {
            CommaFreeBooks x = made(2, 3);
            dueWhy("at first", x, NONE, NONE, NONE);
            told(x, "aab");
            dueWhy("behind a book() without one", x, NONE, NONE, NONE);
            told(x, "aab ab");
            dueWhy("behind a fault", x, 1, 2, 6);
            told(x, "aab");
            dueWhy("behind a book() without one", x, 1, 2, 6);
            told(x, "");
            dueWhy("behind another fault", x, 0, 0, 0);
        });
        sentence("0 how many WORDS stand wholly ahead of it (a blank behind them or not)", () -> {
            dueReason(0, "", 0);
            dueReason(0, "aa", 0);
            dueReason(0, "aabb", 1);
            dueReason(0, "aab ", 1);
            dueReason(0, "aab b", 1);
            dueReason(0, "aab aab", 1);
            dueReason(0, "aab abb-", 2);
            dueReason(0, "aab abb aab", 2);
        });
        sentence("1 how many letters stand right ahead of it (behind the last blank ahead of it, or from the beginning)", () -> {
            dueReason(1, "", 0);
            dueReason(1, "aa", 2);
            dueReason(1, "aabb", 3);
            dueReason(1, "aab ", 0);
            dueReason(1, "aab  ", 0);
            dueReason(1, "aab b", 1);
            dueReason(1, "aab aab", 2);
            dueReason(1, "aab abb-", 3);
        });
        sentence("2 the FAULT", () -> {
            dueReason(2, "", 0);
            dueReason(2, "aa", 2);
            dueReason(2, "aab  ", 4);
            CommaFreeBooks x = made(2, 5);
            told(x, tenWords() + " ");
            dueWhy("of 60 bytes", x, 10, 0, 60);
            told(x, tenWords() + "a");
            dueWhy("of the last of 60", x, 10, 5, 59);
        });
    }

    private void dueReason(int i, String text, int reason) {
        CommaFreeBooks x = made(2, 3);
        told(x, text);
        due("why(" + i + ") of '" + text + "'", x.why(i), reason);
    }

    // ---- 3: the paper, lists, the image

    private void paper() {
        sentence("its WORDS in letters, with one blank between", () -> {
            dueWritten(made(2, 3), "");
            dueWritten(made(2, 3, 7), "bbb");
            dueWritten(made(2, 3, 7, 0), "aaa bbb");
            dueWritten(filled(4, 1), "a b c d");
            CommaFreeBooks most = filled(3, 5);
            due("write() of the longest", most.write(), 1457);
            due("its last byte", most.paper(1456), 'c');
            due("its last blank", most.paper(1451), ' ');
            due("write() of 256", filled(4, 4).write(), 1279);
        });
        sentence("THE PAPER holds the latest one (nothing at first)", () -> {
            CommaFreeBooks x = made(2, 3, 1, 3);
            duePaper("at first", x, "");
            due("paper(0) at first", x.paper(0), NONE);
            x.write();
            x.drop(1);
            duePaper("when a word has gone", x, "aab abb");
            x.write();
            duePaper("written again", x, "abb");
            due("paper(3) of the shorter one", x.paper(3), NONE);
            x.clear();
            x.write();
            duePaper("of no words", x, "");
            due("paper(0) of no words", x.paper(0), NONE);
        });
    }

    private void dueWritten(CommaFreeBooks x, String text) {
        due("write() of '" + text + "'", x.write(), text.length());
        duePaper("of '" + text + "'", x, text);
        due("paper behind '" + text + "'", x.paper(text.length()), NONE);
    }

    private void lists() {
        sentence("LISTS 0 .. 3 hold nothing (at first) or a row of 0 .. 12 ints", () -> {
            CommaFreeBooks x = new CommaFreeBooks();
            for (int l = 0; l <= 3; l++) {
                due("judge(" + l + ") at first", x.judge(l), NOTHING);
                due("get(" + l + ", 0) at first", x.get(l, 0), NO);
                due("list(" + l + ", 12)", x.list(l, 12), 1);
                due("put of the last", x.put(l, 11, l + 1), 1);
            }
            for (int l = 0; l <= 3; l++) {
                due("get(" + l + ", 11)", x.get(l, 11), l + 1);
                due("get(" + l + ", 0)", x.get(l, 0), 0);
                due("list(" + l + ", 0)", x.list(l, 0), 1);
                due("judge(" + l + ") of a row of none", x.judge(l), -5);
            }
            due("list(-1, 1)", x.list(-1, 1), NONE);
            due("list(4, 1)", x.list(4, 1), NONE);
            due("list(0, 13)", x.list(0, 13), BAD);
            due("list(0, -1)", x.list(0, -1), BELOW);
        });
        sentence("NOTHING (-11): none is held", () -> {
            CommaFreeBooks x = new CommaFreeBooks();
            x.list(0, 1);
            for (int l = 1; l <= 3; l++) {
                due("judge(" + l + ")", x.judge(l), -11);
                due("put(" + l + ", 0, 1)", x.put(l, 0, 1), -11);
            }
        });
        sentence("BEYOND (-13): no such place", () -> {
            CommaFreeBooks x = new CommaFreeBooks();
            x.list(0, 2);
            due("put(0, 2, 1)", x.put(0, 2, 1), -13);
            due("put(0, -1, 1)", x.put(0, -1, 1), -13);
            due("put(0, 12, 1)", x.put(0, 12, 1), -13);
        });
        sentence("BELOW (-14): a size below 0", () -> {
            due("list(0, -1)", new CommaFreeBooks().list(0, -1), -14);
            due("list(3, least)", new CommaFreeBooks().list(3, MIN), -14);
        });
        sentence("(-1 where there is none): the first place that is otherwise; -5: none", () -> {
            CommaFreeBooks x = made(2, 3, 1, 3);
            dueJudged(x, -5, 1, 3);
            dueJudged(x, -5, 1);
            dueJudged(x, -5);
            dueJudged(x, -5, 1, 3, -1, -1);
            dueJudged(x, 0, 3, 1);
            dueJudged(x, 0, 0, 0);
            dueJudged(x, 1, 1, 1, 0);
            dueJudged(x, 2, 1, 3, 0);
            dueJudged(x, 2, 1, 3, -2, -1);
            dueJudged(x, 1, 1, -1);
            dueJudged(made(2, 3), -5, -1);
            dueJudged(made(2, 3), 0, 0);
            dueJudged(filled(4, 4), -5, 0, 1, 2, 3, 4, 5, 6, 7, 8, 9, 10, 11);
            dueJudged(filled(4, 4), 11, 0, 1, 2, 3, 4, 5, 6, 7, 8, 9, 10, 12);
        });
    }

    private void dueJudged(CommaFreeBooks x, int place, int... list) {
        row(x, 2, list);
        due("judge of " + Arrays.toString(list), x.judge(2), place);
    }

    private void image() {
        sentence("THE IMAGE: LETTERS, LENGTH, THE BOOK, THE STRIP, the PLAN (not LISTS, THE TAPE, THE PAPER, WHY)", () -> {
            CommaFreeBooks x = made(3, 2, 1, 5);
            cast(x, "ab");
            x.plan(0, 2);
            x.image();
            x.size(2, 3);
            x.add(7);
            cast(x, "b");
            x.plan(1, 7);
            told(x, "aabb");
            x.feed(97);
            x.write();
            row(x, 1, 4, 5);
            x.undo();
            due("letters", x.count(0), 3);
            due("length", x.count(1), 2);
            dueWords("of the image", x, 1, 5);
            due("letters of the strip", x.count(4), 2);
            due("possible(2)", x.possible(2), 1);
            due("rows of the plan", x.count(7), 1);
            due("behind(0)", x.behind(0), 3);
            due("get(1, 1) is not of it", x.get(1, 1), 5);
            due("count(5) is not of it", x.count(5), 1);
            duePaper("is not of it", x, "bbb");
            dueWhy("is not of it", x, 1, 3, 3);
        });
    }

    @Override
    void tell() {
        part("Terms 1");
        letters();
        words();
        hiding();
        rings();
        greatest();
        swaps();
        part("Terms 2");
        strip();
        certainAndDelay();
        draws();
        plans();
        tape();
        reasons();
        part("Terms 3");
        paper();
        lists();
        image();
    }

    public static void main(String[] args) throws IOException {
        new TermsTest().goThrough();
    }
}

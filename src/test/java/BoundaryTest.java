import java.io.IOException;

/** The sentences of promises 1 to 38 that name a boundary case. */
public final class BoundaryTest extends Sentences {
    private interface Call {
        long of(int argument);
    }

    /** The same answer for each of the numbers told, and for numbers that are far from all. */
    private void dueFor(String call, Call asked, long want, int... numbers) {
        for (int i : numbers) {
            due(call + " of " + i, asked.of(i), want);
        }
    }

    private void dueForFar(String call, Call asked, long want) {
        dueFor(call, asked, want, FAR);
    }

    private void dueCounts(String when, CommaFreeBooks x, int... counts) {
        for (int i = 0; i < counts.length; i++) {
            due("count(" + i + ") " + when, x.count(i), counts[i]);
        }
    }

    // ---- words

    private void aNewObject() {
        part("Promise 1");
        sentence("`CommaFreeBooks()`: No WORDS.", () -> {
            CommaFreeBooks x = new CommaFreeBooks();
            dueCounts("at first", x, 2, 3, 8, 0, 0, 0, 0, 0, 4);
            due("word(0)", x.word(0), NOT);
            due("clear()", x.clear(), 0);
            due("undo()", x.undo(), STATE);
            due("behind(0)", x.behind(0), 0);
            CommaFreeBooks other = new CommaFreeBooks();
            other.add(1);
            other.cast(1);
            other.plan(0, 1);
            other.feed(97);
            other.list(0, 1);
            other.write();
            other.image();
            dueCounts("behind another object's calls", x, 2, 3, 8, 0, 0, 0, 0, 0, 4);
            due("judge(0) behind them", x.judge(0), NOTHING);
            due("undo() behind them", x.undo(), STATE);
        });
    }

    private void size() {
        part("Promise 2");
        sentence("There are q LETTERS, LENGTH is n; THE BOOK, THE STRIP are empty, there are no ROWS of the PLAN: SIZE.", () -> {
            int[][] all = {{2, 1, 2}, {2, 5, 32}, {3, 1, 3}, {3, 5, 243}, {4, 1, 4}, {4, 4, 256}};
            for (int[] a : all) {
                CommaFreeBooks x = made(2, 3, 1);
                x.cast(1);
                x.plan(0, 3);
                due("size(" + a[0] + ", " + a[1] + ")", x.size(a[0], a[1]), a[2]);
                dueCounts("behind it", x, a[0], a[1], a[2], 0, 0, 0, 0, 0);
                due("word(0)", x.word(0), NOT);
                due("behind(0)", x.behind(0), 0);
                due("may(word told before)", x.may(1), x.ring(1, 2) == NOT ? 0 : 1);
            }
            CommaFreeBooks same = made(2, 3, 1, 3);
            same.cast(1);
            same.plan(0, 3);
            due("size as it was", same.size(2, 3), 8);
            dueCounts("behind it", same, 2, 3, 8, 0, 0, 0, 0, 0);
            due("add(1) behind it", same.add(1), 1);
            due("cast(0) behind it", same.cast(0), 1);
            due("possible(1) behind it", same.possible(1), 5);
        });
        sentence("BAD: q", () -> {
            CommaFreeBooks x = made(2, 3, 1);
            dueFor("size(q, 1)", q -> x.size(q, 1), BAD, 1, 0, -1, -2, -3, -4, 5, 6, 16, 256);
            dueFor("size(1, n)", n -> x.size(1, n), BAD, 1, 3, 5);
            dueFor("size(-2, n)", n -> x.size(-2, n), BAD, 2, 4);
            due("size(5, 3), of which there would be 125", x.size(5, 3), BAD);
            due("size(16, 2), of which there would be 256", x.size(16, 2), BAD);
            dueForFar("size(q, 1)", q -> x.size(q, 1), BAD);
            dueCounts("behind all of these", x, 2, 3, 8, 1);
        });
        sentence("BAD: q, n", () -> {
            CommaFreeBooks x = made(2, 3, 1);
            dueFor("size(2, n)", n -> x.size(2, n), BAD, 0, -1, -2, 6, 7, 8, 32);
            dueFor("size(3, n)", n -> x.size(3, n), BAD, 0, -1, 6);
            dueFor("size(4, n)", n -> x.size(4, n), BAD, 0, -1, 6);
            dueForFar("size(2, n)", n -> x.size(2, n), BAD);
            dueForFar("size(q, q)", q -> x.size(q, q), BAD);
            dueCounts("behind all of these", x, 2, 3, 8, 1);
        });
        sentence("SIZE would be above 256", () -> {
            CommaFreeBooks x = made(2, 3, 1);
            due("size(4, 5), 1024", x.size(4, 5), BAD);
            dueCounts("behind it", x, 2, 3, 8, 1);
            due("size(4, 4), 256", x.size(4, 4), 256);
            due("size(3, 5), 243", x.size(3, 5), 243);
            due("size(2, 5), 32", x.size(2, 5), 32);
        });
    }

    private void add() {
        part("Promise 3");
        sentence("A WORD comes into THE BOOK: how many there are.", () -> {
            CommaFreeBooks x = made(4, 4);
            for (int i = 0; i < 256; i++) {
                due("add of word " + i * 37 % 256, x.add(i * 37 % 256), i + 1);
            }
            due("word(0) of all", x.word(0), 0);
            due("word(255) of all", x.word(255), 255);
            dueWords("the last ahead of the first", made(2, 3, 7, 0), 0, 7);
            due("one by which it is not free", made(2, 3, 1).add(2), 2);
        });
        sentence("how many there are. NONE", () -> {
            CommaFreeBooks x = made(2, 3, 0, 7);
            dueFor("add", x::add, NONE, -1, 8, 9, 255, 256);
            dueForFar("add", x::add, NONE);
            due("add(8) when all are there", filled(2, 3).add(8), NONE);
            due("add(256) when all are there", filled(4, 4).add(256), NONE);
            dueWords("behind these", x, 0, 7);
        });
        sentence("STATE: it is in it.", () -> {
            CommaFreeBooks x = made(2, 3, 0, 7);
            due("add of the first", x.add(0), STATE);
            due("add of the last", x.add(7), STATE);
            dueWords("behind these", x, 0, 7);
            due("add of one between", x.add(3), 3);
            CommaFreeBooks all = filled(2, 3);
            dueFor("add when all are there", all::add, STATE, 0, 3, 7);
            due("count(3)", all.count(3), 8);
        });
    }

    private void drop() {
        part("Promise 4");
        sentence("A WORD goes out of THE BOOK: how many there are.", () -> {
            CommaFreeBooks x = made(2, 3, 0, 3, 5, 7);
            due("the first", x.drop(0), 3);
            due("the last", x.drop(7), 2);
            dueWords("then", x, 3, 5);
            due("one of two", x.drop(3), 1);
            due("the only one", x.drop(5), 0);
            due("word(0) then", x.word(0), NOT);
            due("mays(-1) then", x.mays(-1), 6);
            CommaFreeBooks all = filled(3, 5);
            due("one of all", all.drop(121), 242);
            due("word(121) then", all.word(121), 122);
            due("word(241) then", all.word(241), 242);
            due("word(242) then", all.word(242), NOT);
        });
        sentence("how many there are. NONE", () -> {
            CommaFreeBooks x = made(2, 3, 3);
            dueFor("drop", x::drop, NONE, -1, 8, 255, 256);
            dueForFar("drop", x::drop, NONE);
            dueFor("drop of no words", made(2, 3)::drop, NONE, -1, 8);
            dueFor("drop of all 256", filled(4, 4)::drop, NONE, -1, 256);
            dueWords("behind these", x, 3);
        });
        sentence("STATE: it is not in it.", () -> {
            CommaFreeBooks x = made(2, 3, 3);
            dueFor("drop", x::drop, STATE, 0, 2, 4, 7);
            due("drop(3)", x.drop(3), 0);
            due("drop(3) once more", x.drop(3), STATE);
            due("drop(0) of no words", made(2, 1).drop(0), STATE);
        });
    }

    private void clear() {
        part("Promise 5");
        sentence("THE BOOK is empty: how many there were.", () -> {
            due("of no words", made(2, 3).clear(), 0);
            CommaFreeBooks x = made(2, 3, 7);
            due("of one", x.clear(), 1);
            due("once more", x.clear(), 0);
            due("add of the one that was there", x.add(7), 1);
            CommaFreeBooks all = filled(4, 4);
            due("of all", all.clear(), 256);
            due("word(0)", all.word(0), NOT);
            due("clash(0)", all.clash(0), NOT);
            due("mays(-1)", all.mays(-1), 240);
        });
    }

    private void word() {
        part("Promise 6");
        sentence("The i-th WORD of THE BOOK (from 0).", () -> {
            CommaFreeBooks x = made(2, 3, 6, 0, 7);
            due("the first", x.word(0), 0);
            due("the middle one", x.word(1), 6);
            due("the last", x.word(2), 7);
            due("the 256th", filled(4, 4).word(255), 255);
        });
        sentence("NOT: there are not so many (i below 0, too).", () -> {
            CommaFreeBooks x = made(2, 3, 6, 0, 7);
            dueFor("word", x::word, NOT, 3, 4, 7, 8, 255, 256, -1, -2);
            dueForFar("word", x::word, NOT);
            due("word(0) of none", made(2, 3).word(0), NOT);
            x.drop(7);
            due("word(2) when it has gone", x.word(2), NOT);
            due("word(256) of all", filled(4, 4).word(256), NOT);
        });
    }

    private void letter() {
        part("Promise 7");
        sentence("Letter i of a WORD (from 0).", () -> {
            CommaFreeBooks x = made(4, 4);
            for (int i = 0; i < 4; i++) {
                due("abcd at " + i, x.letter(27, i), i);
                due("the first word at " + i, x.letter(0, i), 0);
                due("the last word at " + i, x.letter(255, i), 3);
            }
            due("of length 1", made(3, 1).letter(2, 0), 2);
        });
        sentence("NONE: word", () -> {
            CommaFreeBooks x = made(2, 3);
            dueFor("letter(word, 0)", w -> x.letter(w, 0), NONE, -1, 8, 9, 256);
            dueForFar("letter(word, 0)", w -> x.letter(w, 0), NONE);
            dueFor("letter(word, 3) of 256", w -> made(4, 4).letter(w, 3), NONE, -1, 256);
        });
        sentence("NONE: word, i.", () -> {
            CommaFreeBooks x = made(2, 3);
            dueFor("letter(7, i)", i -> x.letter(7, i), NONE, -1, 3, 4, 5);
            dueForFar("letter(7, i)", i -> x.letter(7, i), NONE);
            due("letter(8, 3)", x.letter(8, 3), NONE);
            due("letter(1, 1) of length 1", made(2, 1).letter(1, 1), NONE);
        });
    }

    private void hides() {
        part("Promise 8");
        sentence("The k (bits) at which w HIDES in u, v (any WORDS).", () -> {
            CommaFreeBooks x = made(2, 5);
            due("at all places, no word in THE BOOK", x.hides(0, 0, 0), 2 + 4 + 8 + 16);
            due("at the first alone", x.hides(1, 1, 2), 2);
            due("at the last alone", x.hides(1, 1, 16), 16);
            due("at none", x.hides(1, 1, 1), 0);
            due("in 0 and the last", x.hides(0, 31, 1), 2);
            due("of the last word", x.hides(31, 31, 31), 30);
            due("of length 1", made(4, 1).hides(3, 3, 3), 0);
        });
        sentence("(any WORDS). NONE.", () -> {
            CommaFreeBooks x = made(2, 5);
            dueFor("hides(u, 0, 0)", u -> x.hides(u, 0, 0), NONE, -1, 32, 256);
            dueFor("hides(0, v, 0)", v -> x.hides(0, v, 0), NONE, -1, 32, 256);
            dueFor("hides(0, 0, w)", w -> x.hides(0, 0, w), NONE, -1, 32, 256);
            dueForFar("hides(u, 0, 0)", u -> x.hides(u, 0, 0), NONE);
            dueForFar("hides(0, v, 0)", v -> x.hides(0, v, 0), NONE);
            dueForFar("hides(0, 0, w)", w -> x.hides(0, 0, w), NONE);
        });
    }

    private void clash() {
        part("Promise 9");
        sentence("CLASH: what 0 u, 1 v, 2 k, 3 the WORD that HIDES there.", () -> {
            dueClash("of the first word", made(2, 3, 0), 0, 0, 1, 0);
            dueClash("of the last word", made(2, 3, 7), 7, 7, 1, 7);
            dueClash("at the last place", made(2, 5, 1, 16), 1, 1, 4, 16);
            dueClash("of all 256", filled(4, 4), 0, 0, 1, 0);
            dueClash("of the last alone", made(4, 4, 27, 255), 27, 255, 3, 255);
        });
        sentence("NONE: what", () -> {
            CommaFreeBooks x = made(2, 3, 0);
            dueFor("clash", x::clash, NONE, -1, -2, 4, 5);
            dueForFar("clash", x::clash, NONE);
            dueFor("clash of a free one", made(2, 3, 1, 3)::clash, NONE, -1, 4);
        });
        sentence("NOT: THE BOOK is FREE.", () -> {
            CommaFreeBooks x = made(2, 3, 0);
            dueFor("clash of a free one", made(2, 3, 1, 3)::clash, NOT, 0, 1, 2, 3);
            dueFor("clash of no words", made(2, 3)::clash, NOT, 0, 1, 2, 3);
            dueFor("clash of all words of length 1", filled(4, 1)::clash, NOT, 0, 1, 2, 3);
            x.drop(0);
            due("clash(0) when the word has gone", x.clash(0), NOT);
        });
    }

    private void may() {
        part("Promise 10");
        sentence("Whether a WORD MAY come (1, 0).", () -> {
            CommaFreeBooks x = made(2, 3);
            int[] may = {0, 1, 1, 1, 1, 1, 1, 0};
            for (int w = 0; w < 8; w++) {
                due("may(" + w + ") of no words", x.may(w), may[w]);
            }
            dueFor("may of one that is there", filled(2, 1)::may, 0, 0, 1);
            dueFor("may when it is not free", made(2, 3, 7)::may, 0, 0, 1, 6, 7);
            due("may of the last of length 1", made(4, 1, 0, 1, 2).may(3), 1);
        });
        sentence("(1, 0). NONE.", () -> {
            CommaFreeBooks x = made(2, 3);
            dueFor("may", x::may, NONE, -1, 8, 256);
            dueForFar("may", x::may, NONE);
            dueFor("may when it is not free", made(2, 3, 7)::may, NONE, -1, 8);
            dueFor("may of 256", made(4, 4)::may, NONE, -1, 256);
        });
    }

    private void mays() {
        part("Promise 11");
        sentence("How many WORDS MAY come (i -1)", () -> {
            due("of no words", made(4, 4).mays(-1), 240);
            due("none, when all are there", filled(4, 1).mays(-1), 0);
            due("none, when it is not free", made(2, 3, 0).mays(-1), 0);
            due("three", made(4, 1, 1).mays(-1), 3);
        });
        sentence("the i-th of them, rising.", () -> {
            CommaFreeBooks x = made(4, 4);
            due("the first", x.mays(0), 1);
            due("the last", x.mays(239), 254);
            CommaFreeBooks y = made(4, 1, 1);
            due("the first of three", y.mays(0), 0);
            due("the second of three", y.mays(1), 2);
            due("the third of three", y.mays(2), 3);
        });
        sentence("NOT: there are not so many (i below -1, too).", () -> {
            CommaFreeBooks x = made(4, 1, 1);
            dueFor("mays", x::mays, NOT, 3, 4, -2, -3);
            dueForFar("mays", x::mays, NOT);
            due("mays(0) when all are there", filled(4, 1).mays(0), NOT);
            due("mays(0) when it is not free", made(2, 3, 0).mays(0), NOT);
            due("mays(-2) when it is not free", made(2, 3, 0).mays(-2), NOT);
            due("mays(240) of 256", made(4, 4).mays(240), NOT);
        });
    }

    // ---- rings, greatest books

    private void ring() {
        part("Promise 12");
        sentence("Of a WORD what 0 how many are in its RING, 1 its LEAST, 2 the number of its RING (NOT: it isn't WHOLE), 3 it TURNED.", () -> {
            CommaFreeBooks x = made(4, 4);
            dueRing(x, 0, 1, 0, NOT, 0);
            dueRing(x, 255, 1, 255, NOT, 255);
            dueRing(x, 221, 2, 119, NOT, 119);
            dueRing(x, 1, 4, 1, 0, 4);
            dueRing(x, 64, 4, 1, 0, 1);
            dueRing(x, 254, 4, 191, 59, 251);
            CommaFreeBooks one = made(4, 1);
            dueRing(one, 0, 1, 0, 0, 0);
            dueRing(one, 3, 1, 3, 3, 3);
            CommaFreeBooks five = made(3, 5);
            dueRing(five, 242, 1, 242, NOT, 242);
            dueRing(five, 241, 5, 161, 47, 239);
        });
        sentence("2 the number of its RING (NOT: it isn't WHOLE)", () -> {
            dueFor("ring(word, 2) of length 4", w -> made(2, 4).ring(w, 2), NOT, 0, 5, 10, 15);
            dueFor("ring(word, 2) of length 5", w -> made(2, 5).ring(w, 2), NOT, 0, 31);
            dueFor("ring(word, 2) of the first ring", w -> made(2, 4).ring(w, 2), 0, 1, 2, 4, 8);
            dueFor("ring(word, 2) of the last ring", w -> made(2, 4).ring(w, 2), 2, 7, 11, 13, 14);
        });
        sentence("3 it TURNED. NONE.", () -> {
            CommaFreeBooks x = made(2, 3);
            for (int what = 0; what <= 3; what++) {
                int asked = what;
                dueFor("ring(word, " + what + ")", w -> x.ring(w, asked), NONE, -1, 8, 256);
                dueForFar("ring(word, " + what + ")", w -> x.ring(w, asked), NONE);
            }
            dueFor("ring(1, what)", what -> x.ring(1, what), NONE, -1, -2, 4, 5);
            dueFor("ring(0, what), not whole", what -> x.ring(0, what), NONE, -1, 4);
            dueForFar("ring(1, what)", what -> x.ring(1, what), NONE);
        });
    }

    private void dueRing(CommaFreeBooks x, int word, int... due) {
        for (int what = 0; what <= 3; what++) {
            due("ring(" + word + ", " + what + ")", x.ring(word, what), due[what]);
        }
    }

    private void bound() {
        part("Promise 13");
        sentence("BOUND (i -1), else the LEAST of WHOLE RING i.", () -> {
            CommaFreeBooks x = made(4, 4, 0, 1, 2);
            due("bound(-1)", x.bound(-1), 60);
            due("the first", x.bound(0), 1);
            due("the last", x.bound(59), 191);
            CommaFreeBooks one = made(2, 2);
            due("bound(-1) of a single one", one.bound(-1), 1);
            due("bound(0) of a single one", one.bound(0), 1);
            due("bound(0) of length 1", made(2, 1).bound(0), 0);
        });
        sentence("NOT: there are not so many (i below -1, too).", () -> {
            CommaFreeBooks x = made(2, 4);
            dueFor("bound", x::bound, NOT, 3, 4, 15, 16, -2, -3);
            dueForFar("bound", x::bound, NOT);
            due("bound(1) of a single one", made(2, 2).bound(1), NOT);
            due("bound(60) of 60", made(4, 4).bound(60), NOT);
            due("bound(4) of length 1", made(4, 1).bound(4), NOT);
        });
    }

    private void great() {
        part("Promise 14");
        sentence("GREATEST: i -1 how many books, -2 how many WORDS each has, -3 how many books of which none is SWAPPED another one, at most", () -> {
            int[][] small = {{2, 1, 1, 2, 1}, {2, 2, 2, 1, 1}, {2, 3, 8, 2, 3}, {2, 4, 28, 3, 8}, {2, 5, 86, 6, 25},
                {3, 1, 1, 3, 1}, {3, 2, 6, 3, 1}, {3, 3, 42, 8, 5}, {4, 1, 1, 4, 1}, {4, 2, 36, 5, 2}};
            CommaFreeBooks x = new CommaFreeBooks();
            for (int[] s : small) {
                x.size(s[0], s[1]);
                x.add(0);
                for (int i = 1; i <= 3; i++) {
                    due("great(-" + i + ", 0) of " + s[0] + ", " + s[1], x.great(-i, 0), s[i + 1]);
                }
            }
        });
        sentence("else the WORD that the i-th has of WHOLE RING k (NONE: none)", () -> {
            CommaFreeBooks other = made(2, 2);
            due("the last of 2 letters", other.great(1, 0), 2);
            other.size(3, 2);
            due("the last of 3 letters, of the same length", other.great(5, 2), 7);
            other.size(3, 3);
            due("the last of another length", other.great(41, 7), 23);
            due("the first of another length", other.great(0, 5), 24);
            other.size(2, 2);
            due("the last of 2 letters again", other.great(1, 0), 2);
            CommaFreeBooks x = made(4, 2);
            due("the last ring of the first book", x.great(0, 5), NONE);
            due("the last but one of it", x.great(0, 4), 7);
            due("the first ring of the last book", x.great(35, 0), NONE);
            due("the last ring of the last book", x.great(35, 5), 14);
            due("the one ring of ab", made(2, 2).great(0, 0), 1);
            due("the one ring of ba", made(2, 2).great(1, 0), 2);
            due("of the 86th", made(2, 5).great(85, 5), 29);
            due("of length 1", made(4, 1).great(0, 3), 3);
        });
        sentence("STATE: SIZE is above 32", () -> {
            int[][] above = {{4, 3}, {3, 4}, {3, 5}, {4, 4}};
            for (int[] a : above) {
                CommaFreeBooks x = made(a[0], a[1]);
                dueFor("great(i, 0) of SIZE " + x.count(2), i -> x.great(i, 0), STATE, 0, 1, -1, -2, -3, -4, MIN, MAX);
                dueFor("great(0, k) of SIZE " + x.count(2), k -> x.great(0, k), STATE, 1, -1, 99, MIN, MAX);
            }
            due("great(-1, 0) of SIZE 32", made(2, 5).great(-1, 0), 86);
        });
        sentence("NOT: there are not so many books (i below -3, too), or no such RING (k does not matter with i below 0)", () -> {
            CommaFreeBooks x = made(2, 3);
            dueFor("great(i, 0)", i -> x.great(i, 0), NOT, 8, 9, 99, -4, -5);
            dueForFar("great(i, 0)", i -> x.great(i, 0), NOT);
            dueFor("great(0, k)", k -> x.great(0, k), NOT, 2, 3, -1, -2, -3);
            dueForFar("great(0, k)", k -> x.great(0, k), NOT);
            due("great(7, 1)", x.great(7, 1), 6);
            due("great(7, 2)", x.great(7, 2), NOT);
            due("great(8, 2)", x.great(8, 2), NOT);
            dueFor("great(-1, k)", k -> x.great(-1, k), 8, -1, 2, 99, MIN, MAX);
            dueFor("great(-2, k)", k -> x.great(-2, k), 2, -1, 2, 99, MIN, MAX);
            dueFor("great(-3, k)", k -> x.great(-3, k), 3, -1, 2, 99, MIN, MAX);
            dueFor("great(-4, k)", k -> x.great(-4, k), NOT, -1, 2, 99, MIN, MAX);
            due("great(86, 0) of 86", made(2, 5).great(86, 0), NOT);
            due("great(1, 0) of one", made(3, 1).great(1, 0), NOT);
            due("great(0, 6) of 6 rings", made(4, 2).great(0, 6), NOT);
        });
    }

    // ---- swaps

    private void swapped() {
        part("Promise 15");
        sentence("A WORD SWAPPED.", () -> {
            CommaFreeBooks x = made(4, 4);
            due("by the first", x.swapped(0, 27), 27);
            due("by the second", x.swapped(1, 27), 228);
            due("by the last", x.swapped(47, 27), 27);
            due("the first word by the last", x.swapped(47, 0), 255);
            due("the last word by the last", x.swapped(47, 255), 0);
            due("by the last of 2", made(2, 3).swapped(3, 1), 3);
            due("by the last of 3", made(3, 2).swapped(11, 1), 5);
        });
        sentence("NONE: swap", () -> {
            CommaFreeBooks x = made(4, 4);
            dueFor("swapped(swap, 0)", s -> x.swapped(s, 0), NONE, -1, 48, 49);
            dueForFar("swapped(swap, 0)", s -> x.swapped(s, 0), NONE);
            dueFor("swapped(swap, 1) of 2", s -> made(2, 3).swapped(s, 1), NONE, -1, 4, 5, 47);
            dueFor("swapped(swap, 1) of 3", s -> made(3, 2).swapped(s, 1), NONE, -1, 12, 47);
        });
        sentence("NONE: swap, word.", () -> {
            CommaFreeBooks x = made(4, 4);
            dueFor("swapped(0, word)", w -> x.swapped(0, w), NONE, -1, 256);
            dueForFar("swapped(0, word)", w -> x.swapped(0, w), NONE);
            dueFor("swapped(0, word) of 8", w -> made(2, 3).swapped(0, w), NONE, -1, 8);
            dueFor("swapped(47, word)", w -> x.swapped(47, w), NONE, -1, 256);
        });
    }

    private void swap() {
        part("Promise 16");
        sentence("THE BOOK is SWAPPED: how many WORDS.", () -> {
            CommaFreeBooks x = made(4, 4, 0, 27);
            due("by the first", x.swap(0), 2);
            dueWords("as they were", x, 0, 27);
            due("by the last", x.swap(47), 2);
            dueWords("then", x, 27, 255);
            due("by one", x.swap(1), 2);
            dueWords("then", x, 228, 255);
            due("of no words", made(4, 4).swap(47), 0);
            CommaFreeBooks all = filled(4, 4);
            due("of all", all.swap(23), 256);
            due("the last of all", all.word(255), 255);
            CommaFreeBooks free = made(2, 3, 1, 3);
            free.swap(2);
            due("a word that was there is not", free.drop(1), STATE);
            due("clash(0) of a free one", free.clash(0), NOT);
            due("mays(-1) of it", free.mays(-1), 0);
        });
        sentence("how many WORDS. NONE.", () -> {
            CommaFreeBooks x = made(4, 4, 0, 27);
            dueFor("swap", x::swap, NONE, -1, 48, 49);
            dueForFar("swap", x::swap, NONE);
            dueWords("behind these", x, 0, 27);
            dueFor("swap of no words", made(4, 4)::swap, NONE, -1, 48);
            dueFor("swap of 2 letters", made(2, 3, 1)::swap, NONE, -1, 4, 47);
            dueFor("swap of 3 letters", made(3, 3, 1)::swap, NONE, -1, 12, 47);
        });
    }

    private void keeps() {
        part("Promise 17");
        sentence("How many SWAPS KEEP THE BOOK (i -1); the i-th of them, rising.", () -> {
            due("all, of no words", made(4, 4).keeps(-1), 48);
            due("the last, of no words", made(4, 4).keeps(47), 47);
            due("all, of all words", filled(3, 1).keeps(-1), 12);
            CommaFreeBooks one = made(3, 3, 5);
            due("abc: two", one.keeps(-1), 2);
            due("the first", one.keeps(0), 0);
            due("the last: cba mirrored", one.keeps(1), 11);
            CommaFreeBooks none = made(2, 4, 1);
            due("aaab: the one that does nothing", none.keeps(-1), 1);
            due("the first", none.keeps(0), 0);
        });
        sentence("NOT: there are not so many (i below -1, too).", () -> {
            CommaFreeBooks x = made(3, 3, 5);
            dueFor("keeps", x::keeps, NOT, 2, 3, 11, 12, -2, -3);
            dueForFar("keeps", x::keeps, NOT);
            due("keeps(48) of no words", made(4, 4).keeps(48), NOT);
            due("keeps(4) of no words, 2 letters", made(2, 4).keeps(4), NOT);
            due("keeps(1) of aaab", made(2, 4, 1).keeps(1), NOT);
        });
    }

    // ---- the strip

    private void castAndSpell() {
        part("Promise 18");
        sentence("A letter comes behind THE STRIP's: how many it has.", () -> {
            CommaFreeBooks x = made(3, 2, 1);
            due("the first", x.cast(0), 1);
            due("the second", x.cast(1), 2);
            due("they stand in this order", x.possible(2), 1);
            for (int i = 3; i <= 40; i++) {
                due("letter " + i, x.cast(i % 3), i);
            }
        });
        sentence("how many it has. BAD", () -> {
            CommaFreeBooks x = made(3, 2, 1);
            dueFor("cast", x::cast, BAD, -1, 3, 4, 97);
            dueForFar("cast", x::cast, BAD);
            dueFor("cast of 2 letters", made(2, 5)::cast, BAD, -1, 2);
            dueFor("cast of 4 letters", made(4, 1)::cast, BAD, -1, 4);
            due("count(4) behind these", x.count(4), 0);
        });
        sentence("BAD; FULL.", () -> {
            CommaFreeBooks x = made(3, 2, 1);
            cast(x, "a".repeat(39));
            due("the last that has room", x.cast(0), 40);
            dueFor("cast of 40", x::cast, FULL, 0, 1, 2);
            dueFor("cast of 40", x::cast, BAD, -1, 3);
            due("count(4)", x.count(4), 40);
            x.tear(1);
            due("when one has gone", x.cast(2), 40);
        });
        part("Promise 19");
        sentence("All letters of a WORD come behind THE STRIP's: how many it has.", () -> {
            CommaFreeBooks x = made(4, 4, 27);
            due("the first word", x.spell(27), 4);
            due("all its letters, in order", x.possible(4), 1);
            for (int i = 2; i <= 10; i++) {
                due("word " + i, x.spell(27), 4 * i);
            }
            due("all their letters, in order", x.possible(40), 1);
            due("of length 1", made(2, 1).spell(1), 1);
            due("the last of length 5", made(3, 5).spell(242), 5);
        });
        sentence("how many it has. NONE", () -> {
            CommaFreeBooks x = made(4, 4, 27);
            dueFor("spell", x::spell, NONE, -1, 256, 257);
            dueForFar("spell", x::spell, NONE);
            dueFor("spell of 8", made(2, 3)::spell, NONE, -1, 8);
            due("count(4) behind these", x.count(4), 0);
        });
        sentence("FULL: not all have room (none comes).", () -> {
            CommaFreeBooks x = made(4, 4, 27);
            cast(x, "a".repeat(37));
            due("at 37", x.spell(27), FULL);
            due("at 37, no word", x.spell(256), NONE);
            due("none has come", x.count(4), 37);
            x.tear(1);
            due("at 36", x.spell(27), 40);
            due("at 40", x.spell(27), FULL);
            due("at 40, no word", x.spell(-1), NONE);
            due("but for its letters", x.tear(36), 4);
            due("they are its letters", x.possible(4), 1);
            CommaFreeBooks one = made(2, 1);
            cast(one, "a".repeat(39));
            due("length 1 at 39", one.spell(1), 40);
            due("length 1 at 40", one.spell(1), FULL);
        });
    }

    private void tearAndPossible() {
        part("Promise 20");
        sentence("The first v letters of THE STRIP go: how many it has.", () -> {
            CommaFreeBooks x = made(3, 3, 5);
            cast(x, "abcab");
            due("none", x.tear(0), 5);
            due("it stays", x.possible(5), 1);
            due("one", x.tear(1), 4);
            due("bcab is left", x.possible(4), 4);
            due("all but one", x.tear(3), 1);
            due("b is left", x.possible(1), 4);
            due("all", x.tear(1), 0);
            due("none of none", x.tear(0), 0);
            due("a letter that comes then", x.cast(0), 1);
            due("it is the first", x.possible(1), 1);
        });
        sentence("BAD: v (0 .. as many as it has).", () -> {
            CommaFreeBooks x = made(3, 3, 5);
            cast(x, "abcab");
            dueFor("tear", x::tear, BAD, -1, 6, 7, 40, 41);
            dueForFar("tear", x::tear, BAD);
            due("count(4) behind these", x.count(4), 5);
            dueFor("tear of none", made(3, 3)::tear, BAD, -1, 1);
            CommaFreeBooks y = made(2, 1);
            cast(y, "a".repeat(40));
            due("41 of 40", y.tear(41), BAD);
            due("40 of 40", y.tear(40), 0);
            due("1 of none", y.tear(1), BAD);
        });
        part("Promise 21");
        sentence("POSSIBLE OFFSETS (bits) for the first k letters of THE STRIP.", () -> {
            CommaFreeBooks x = made(3, 3, 5);
            cast(x, "abca");
            int[] bits = {7, 1, 1, 1, 1};
            for (int k = 0; k <= 4; k++) {
                due("possible(" + k + ")", x.possible(k), bits[k]);
            }
            due("possible(0) of no letters", made(2, 5).possible(0), 31);
            CommaFreeBooks all = filled(2, 5);
            cast(all, "ab".repeat(20));
            due("possible(40) of all words", all.possible(40), 31);
            due("possible(40) of no words", cleared(all).possible(40), 0);
        });
        sentence("BAD: k (0 .. as many as it has).", () -> {
            CommaFreeBooks x = made(3, 3, 5);
            cast(x, "abca");
            dueFor("possible", x::possible, BAD, -1, 5, 6, 40, 41);
            dueForFar("possible", x::possible, BAD);
            dueFor("possible of no letters", made(2, 5)::possible, BAD, -1, 1);
            CommaFreeBooks y = made(2, 1);
            cast(y, "a".repeat(40));
            dueFor("possible of 40 letters", y::possible, BAD, -1, 41);
        });
    }

    private static CommaFreeBooks cleared(CommaFreeBooks x) {
        x.clear();
        return x;
    }

    private void certainAndDelay() {
        part("Promise 22");
        sentence("CERTAIN: what 0 k, 1 the OFFSET.", () -> {
            CommaFreeBooks x = made(4, 4, 27);
            cast(x, "d");
            due("k by the first letter", x.certain(0), 1);
            due("the offset 1", x.certain(1), 1);
            CommaFreeBooks y = made(2, 5, 0, 1);
            cast(y, "a".repeat(35) + "baaaa");
            due("k behind 35 like letters", y.certain(0), 36);
            due("the offset 1", y.certain(1), 1);
            CommaFreeBooks z = made(2, 5, 1);
            cast(z, "ba");
            due("k by the last letter of a word", z.certain(0), 1);
            due("the offset 1", z.certain(1), 1);
            CommaFreeBooks last = made(2, 5, 8);
            cast(last, "b");
            due("the offset 4", last.certain(1), 4);
        });
        sentence("1 the OFFSET. NONE", () -> {
            CommaFreeBooks x = made(2, 3, 1);
            dueFor("certain of no letters", x::certain, NONE, -1, -2, 2, 3);
            dueForFar("certain of no letters", x::certain, NONE);
            cast(x, "aa");
            dueFor("certain of one offset", x::certain, NONE, -1, 2);
        });
        sentence("NOT: it never is.", () -> {
            CommaFreeBooks x = made(2, 3, 1);
            dueFor("certain of no letters", x::certain, NOT, 0, 1);
            cast(x, "a");
            dueFor("certain of two offsets", x::certain, NOT, 0, 1);
            cast(x, "a");
            due("certain(0) of one", x.certain(0), 2);
            due("certain(1) of one", x.certain(1), 0);
            CommaFreeBooks none = made(2, 3);
            cast(none, "ab");
            dueFor("certain of no words", none::certain, NOT, 0, 1);
        });
        part("Promise 23");
        sentence("DELAY. STATE: SIZE is above 32", () -> {
            int[][] above = {{4, 3}, {3, 4}, {3, 5}, {4, 4}};
            for (int[] a : above) {
                due("delay() of " + a[0] + ", " + a[1], made(a[0], a[1]).delay(), STATE);
                due("delay() of it with a word", made(a[0], a[1], 0).delay(), STATE);
            }
            due("delay() of SIZE 32", made(2, 5, 1).delay(), 4);
            due("delay() of SIZE 27", made(3, 3, 1).delay(), 2);
        });
        sentence("NOT: none of 1 .. 12.", () -> {
            due("delay() of 1", made(4, 2, 1).delay(), 1);
            due("delay() of 12", made(2, 5, 19, 20, 30).delay(), 12);
            due("delay() of 13", made(2, 5, 10, 12, 25, 30).delay(), NOT);
            due("delay() of all words", filled(2, 5).delay(), NOT);
            due("delay() of no words", made(2, 5).delay(), 1);
        });
    }

    // ---- draws, plans

    private void odds() {
        part("Promise 24");
        CommaFreeBooks x = made(2, 1);
        sentence("ODDS of v.", () -> {
            dueForFar("odds(1, seed, 1, 0), any seed", seed -> x.odds(1, seed, 1, 0), 1);
            dueForFar("odds(12, seed, 30, 1), any seed", seed -> x.odds(12, seed, 30, 1), 1);
            due("odds(1, 0, 30, 0)", made(2, 2).odds(1, 0, 30, 0), 7);
            due("odds(1, 0, 30, 1)", made(2, 2).odds(1, 0, 30, 1), 15);
        });
        sentence("NO: v", () -> {
            dueFor("odds(v, 0, 1, 0)", v -> x.odds(v, 0, 1, 0), 1, 1, 2, 11, 12);
            dueFor("odds(v, 0, 1, 0)", v -> x.odds(v, 0, 1, 0), NO, 0, -1, 13, 14);
            dueForFar("odds(v, 0, 1, 0)", v -> x.odds(v, 0, 1, 0), NO);
        });
        sentence("NO: v, m", () -> {
            dueFor("odds(1, 0, m, 0)", m -> x.odds(1, 0, m, 0), 1, 1, 2, 29, 30);
            dueFor("odds(1, 0, m, 0)", m -> x.odds(1, 0, m, 0), NO, 0, -1, 31, 32);
            dueForFar("odds(1, 0, m, 0)", m -> x.odds(1, 0, m, 0), NO);
        });
        sentence("NO: v, m, part.", () -> {
            dueFor("odds(1, 0, 1, part)", part -> x.odds(1, 0, 1, part), 1, 0, 1);
            dueFor("odds(1, 0, 1, part)", part -> x.odds(1, 0, 1, part), NO, -1, 2, 3);
            dueForFar("odds(1, 0, 1, part)", part -> x.odds(1, 0, 1, part), NO);
        });
    }

    private void plan() {
        part("Promise 25");
        sentence("A ROW comes to the PLAN: how many there are", () -> {
            CommaFreeBooks x = made(2, 3);
            for (int i = 1; i <= 8; i++) {
                due("row " + i, x.plan(0, i - 1), i);
            }
            due("behind(0) of 8 rows", x.behind(0), 8);
        });
        sentence("(what -1: it is empty then, 0, whatever the other is)", () -> {
            CommaFreeBooks x = made(2, 3);
            due("empty as it is", x.plan(-1, 0), 0);
            for (int i = 0; i < 8; i++) {
                x.plan(0, i);
            }
            dueFor("plan(-1, v)", v -> x.plan(-1, v), 0, -1, 48, 256, MIN, MAX);
            due("count(7)", x.count(7), 0);
            due("behind(0)", x.behind(0), 0);
            due("the first again", x.plan(0, 0), 1);
        });
        sentence("NONE: what", () -> {
            CommaFreeBooks x = made(2, 3);
            dueFor("plan(what, 0)", what -> x.plan(what, 0), NONE, -2, -3, 4, 5);
            dueFor("plan(what, 256)", what -> x.plan(what, 256), NONE, -2, 4);
            dueForFar("plan(what, 0)", what -> x.plan(what, 0), NONE);
            due("count(7) behind these", x.count(7), 0);
        });
        sentence("BAD: v (by 0, 1, 3 0 .. 255; by 2 0 .. 47)", () -> {
            CommaFreeBooks x = made(2, 3);
            int[] ends = {256, 256, 48, 256};
            for (int what = 0; what <= 3; what++) {
                int asked = what;
                dueFor("plan(" + what + ", v)", v -> x.plan(asked, v), BAD, -1, ends[what], ends[what] + 1);
                dueForFar("plan(" + what + ", v)", v -> x.plan(asked, v), BAD);
                due("plan(" + what + ", 0)", x.plan(what, 0), 2 * what + 1);
                due("plan(" + what + ", the last)", x.plan(what, ends[what] - 1), 2 * what + 2);
            }
        });
        sentence("by 2 0 .. 47); FULL.", () -> {
            CommaFreeBooks x = made(2, 3);
            for (int i = 1; i <= 8; i++) {
                due("plan(1, 7), row " + i, x.plan(1, 7), i);
            }
            dueFor("plan(what, 0) of 8", what -> x.plan(what, 0), FULL, 0, 1, 2, 3);
            dueFor("plan(what, 0) of 8", what -> x.plan(what, 0), NONE, -2, 4);
            dueFor("plan(what, -1) of 8", what -> x.plan(what, -1), BAD, 0, 1, 2, 3);
            due("plan(2, 48) of 8", x.plan(2, 48), BAD);
            due("plan(3, 48) of 8", x.plan(3, 48), FULL);
            due("count(7)", x.count(7), 8);
        });
    }

    private void behind() {
        part("Promise 26");
        sentence("BEHIND the PLAN what 0 how many WORDS THE BOOK has, 1 whether it is FREE (1, 0), 2 its least WORD (NOT: it has none).", () -> {
            CommaFreeBooks x = made(2, 3);
            dueBehind("no words, no rows", x, 0, 1, NOT);
            x.add(0);
            dueBehind("one word, no rows", x, 1, 0, 0);
            x.plan(1, 0);
            dueBehind("the one gone", x, 0, 1, NOT);
            x.plan(0, 7);
            dueBehind("the last come", x, 1, 0, 7);
            x.plan(2, 2);
            dueBehind("and swapped", x, 1, 0, 0);
            dueBehind("all 256 words", filled(4, 4), 256, 0, 0);
        });
        sentence("(NOT: it has none). NONE.", () -> {
            CommaFreeBooks x = made(2, 3, 1);
            x.plan(0, 3);
            dueFor("behind", x::behind, NONE, -1, -2, 3, 4);
            dueForFar("behind", x::behind, NONE);
            dueFor("behind of no words", made(2, 3)::behind, NONE, -1, 3);
        });
    }

    private void dueBehind(String when, CommaFreeBooks x, int words, int free, int least) {
        due("behind(0), " + when, x.behind(0), words);
        due("behind(1), " + when, x.behind(1), free);
        due("behind(2), " + when, x.behind(2), least);
    }

    // ---- texts

    private void feedAndBook() {
        part("Promise 27");
        sentence("A byte (1 .. 127) comes behind THE TAPE's: how many it has.", () -> {
            CommaFreeBooks x = new CommaFreeBooks();
            due("the least", x.feed(1), 1);
            due("the greatest", x.feed(127), 2);
            for (int i = 3; i <= 60; i++) {
                due("byte " + i, x.feed(32), i);
            }
            CommaFreeBooks y = made(2, 3);
            feed(y, "aab");
            due("in the order told", y.book(), 1);
            dueWords("of them", y, 1);
        });
        sentence("how many it has. BAD", () -> {
            CommaFreeBooks x = new CommaFreeBooks();
            dueFor("feed", x::feed, BAD, 0, -1, 128, 129, 255);
            dueForFar("feed", x::feed, BAD);
            due("count(5) behind these", x.count(5), 0);
        });
        sentence("BAD; FULL.", () -> {
            CommaFreeBooks x = new CommaFreeBooks();
            feed(x, " ".repeat(59));
            due("the last that has room", x.feed(97), 60);
            dueFor("feed of 60", x::feed, FULL, 1, 97, 127);
            dueFor("feed of 60", x::feed, BAD, 0, 128);
            due("count(5)", x.count(5), 60);
            x.book();
            due("when it was read", x.feed(97), 1);
        });
        part("Promise 28");
        sentence("THE TAPE tells THE BOOK (in place of what it was): how many WORDS.", () -> {
            CommaFreeBooks x = made(2, 3, 0, 1, 2);
            due("one word", told(x, "bbb"), 1);
            dueWords("in place of three", x, 7);
            due("the same once more", told(x, "bbb"), 1);
            due("three, falling", told(x, "bbb baa aab"), 3);
            dueWords("in place of one", x, 1, 4, 7);
            due("clash(0) of them", x.clash(0), 1);
            due("may of one that was there", made(2, 1, 0).may(0), 0);
            due("all words of a length", told(made(4, 1), "d a c b"), 4);
        });
        sentence("-100 less the FAULT.", () -> {
            CommaFreeBooks x = made(2, 3, 0, 1, 2);
            due("no bytes", x.book(), -100);
            due("a fault at 1", told(x, "ac"), -101);
            due("a fault at 60", told(made(2, 5), "aaaaa aaaab aaaba aaabb aabaa aabab aabba aabbb abaaa abaab "), -160);
            due("a fault behind a word", told(x, "bbb,"), -103);
            dueWords("as it was", x, 0, 1, 2);
            due("clash(0) as it was", x.clash(0), 0);
        });
    }

    private void whyAndPaper() {
        part("Promise 29");
        sentence("WHY: REASON i.", () -> {
            CommaFreeBooks x = made(2, 3);
            told(x, "aab aa");
            due("why(0)", x.why(0), 1);
            due("why(1)", x.why(1), 2);
            due("why(2)", x.why(2), 6);
        });
        sentence("NONE: i", () -> {
            CommaFreeBooks x = made(2, 3);
            told(x, "aab aa");
            dueFor("why", x::why, NONE, -1, -2, 3, 4);
            dueForFar("why", x::why, NONE);
        });
        sentence("NONE: i, there is none.", () -> {
            CommaFreeBooks x = made(2, 3);
            dueFor("why at first", x::why, NONE, 0, 1, 2, 3, -1);
            told(x, "aab");
            dueFor("why behind a book() without a fault", x::why, NONE, 0, 1, 2);
            told(x, "");
            dueFor("why behind no bytes", x::why, 0, 0, 1, 2);
        });
        part("Promise 30");
        sentence("THE PAPER becomes THE BOOK WRITTEN: how many bytes.", () -> {
            due("of no words", made(2, 3).write(), 0);
            due("of one", made(2, 5, 3).write(), 5);
            due("of one of length 1", made(2, 1, 0).write(), 1);
            due("of all 256", filled(4, 4).write(), 1279);
            due("of all 243", filled(3, 5).write(), 1457);
        });
        part("Promise 31");
        sentence("Byte i of THE PAPER.", () -> {
            CommaFreeBooks x = made(3, 2, 1, 8);
            x.write();
            due("the first", x.paper(0), 'a');
            due("the blank", x.paper(2), ' ');
            due("the last", x.paper(4), 'c');
        });
        sentence("Byte i of THE PAPER. NONE.", () -> {
            CommaFreeBooks x = made(3, 2, 1, 8);
            dueFor("paper of none", x::paper, NONE, 0, 1, -1);
            x.write();
            dueFor("paper", x::paper, NONE, -1, 5, 6);
            dueForFar("paper", x::paper, NONE);
            CommaFreeBooks all = filled(3, 5);
            all.write();
            due("the last of the longest", all.paper(1456), 'c');
            due("one behind it", all.paper(1457), NONE);
        });
    }

    // ---- lists, the image

    private void judgeAndList() {
        part("Promise 32");
        sentence("JUDGED.", () -> {
            CommaFreeBooks x = made(2, 3, 1);
            row(x, 0, 1);
            row(x, 3);
            due("judge of the first", x.judge(0), -5);
            due("judge of a row of none", x.judge(3), -5);
            row(x, 1, 1, -1, -1, -1, -1, -1, -1, -1, -1, -1, -1, 0);
            due("judge of the last of twelve", x.judge(1), 11);
        });
        sentence("JUDGED. NONE", () -> {
            CommaFreeBooks x = made(2, 3, 1);
            dueFor("judge", x::judge, NONE, -1, 4, 5);
            dueForFar("judge", x::judge, NONE);
        });
        sentence("NONE; NOTHING.", () -> {
            CommaFreeBooks x = made(2, 3, 1);
            dueFor("judge of nothing", x::judge, NOTHING, 0, 1, 2, 3);
            row(x, 0, 1);
            row(x, 3);
            dueFor("judge of nothing still", x::judge, NOTHING, 1, 2);
            dueFor("judge of something", x::judge, -5, 0, 3);
        });
        part("Promise 33");
        sentence("NONE: list", () -> {
            CommaFreeBooks x = new CommaFreeBooks();
            dueFor("list(list, 1)", l -> x.list(l, 1), NONE, -1, 4, 5);
            dueForFar("list(list, 1)", l -> x.list(l, 1), NONE);
            dueFor("list(4, n)", n -> x.list(4, n), NONE, 13, -1);
        });
        sentence("BAD: n above 12", () -> {
            CommaFreeBooks x = new CommaFreeBooks();
            dueFor("list(0, n)", n -> x.list(0, n), BAD, 13, 14, MAX);
            due("judge(0) behind these", x.judge(0), NOTHING);
            due("list(0, 12)", x.list(0, 12), 1);
        });
        sentence("BELOW.", () -> {
            CommaFreeBooks x = new CommaFreeBooks();
            dueFor("list(0, n)", n -> x.list(0, n), BELOW, -1, -2, MIN);
            due("judge(0) behind these", x.judge(0), NOTHING);
            due("list(0, 0)", x.list(0, 0), 1);
        });
        sentence("A LIST becomes a row of n ints, all 0: 1.", () -> {
            CommaFreeBooks x = new CommaFreeBooks();
            dueFor("list(0, n)", n -> x.list(0, n), 1, 0, 1, 12);
            x.put(0, 0, 5);
            x.put(0, 11, 5);
            due("list(0, 12) again", x.list(0, 12), 1);
            due("get(0, 0) is 0 again", x.get(0, 0), 0);
            due("get(0, 11) is 0 again", x.get(0, 11), 0);
            due("list(0, 1)", x.list(0, 1), 1);
            due("get(0, 1) of one", x.get(0, 1), NO);
        });
    }

    private void putAndGet() {
        part("Promise 34");
        sentence("becomes v: 1. NONE", () -> {
            CommaFreeBooks x = new CommaFreeBooks();
            dueFor("put(list, 0, 1)", l -> x.put(l, 0, 1), NONE, -1, 4);
            dueForFar("put(list, 0, 1)", l -> x.put(l, 0, 1), NONE);
            dueFor("put(4, i, 1)", i -> x.put(4, i, 1), NONE, -1, 12);
        });
        sentence("NONE; NOTHING; BEYOND.", () -> {
            CommaFreeBooks x = new CommaFreeBooks();
            dueFor("put(0, i, 1) of nothing", i -> x.put(0, i, 1), NOTHING, -1, 0, 12, MIN, MAX);
            dueFor("put(list, 0, 1) of nothing", l -> x.put(l, 0, 1), NOTHING, 0, 1, 2, 3);
            due("get(0, 0) behind these", x.get(0, 0), NO);
        });
        sentence("BEYOND.", () -> {
            CommaFreeBooks x = new CommaFreeBooks();
            x.list(0, 3);
            dueFor("put(0, i, 1) of three", i -> x.put(0, i, 1), BEYOND, -1, 3, 4, 11, 12);
            dueForFar("put(0, i, 1) of three", i -> x.put(0, i, 1), BEYOND);
            x.list(1, 12);
            dueFor("put(1, i, 1) of twelve", i -> x.put(1, i, 1), BEYOND, -1, 12);
            x.list(2, 0);
            dueFor("put(2, i, 1) of none", i -> x.put(2, i, 1), BEYOND, -1, 0);
            due("get(0, 2) behind these", x.get(0, 2), 0);
        });
        sentence("Place i of a LIST becomes v: 1.", () -> {
            CommaFreeBooks x = new CommaFreeBooks();
            x.list(0, 3);
            x.list(1, 3);
            dueFor("put(0, 2, v)", v -> x.put(0, 2, v), 1, 0, -1, MAX, MIN);
            due("put(0, 0, MAX)", x.put(0, 0, MAX), 1);
            due("get(0, 2)", x.get(0, 2), MIN);
            due("get(0, 0)", x.get(0, 0), MAX);
            due("get(1, 2), another list", x.get(1, 2), 0);
        });
        part("Promise 35");
        sentence("Place i of a LIST.", () -> {
            CommaFreeBooks x = new CommaFreeBooks();
            row(x, 0, 7, 8);
            row(x, 3, MIN, 0, 0, 0, 0, 0, 0, 0, 0, 0, 0, MAX);
            due("the first", x.get(0, 0), 7);
            due("the last", x.get(0, 1), 8);
            due("the first of twelve", x.get(3, 0), MIN);
            due("the last of twelve", x.get(3, 11), MAX);
        });
        sentence("NO: no such LIST", () -> {
            CommaFreeBooks x = new CommaFreeBooks();
            row(x, 0, 7, 8);
            row(x, 3, 7, 8);
            dueFor("get(list, 0)", l -> x.get(l, 0), NO, -1, 4);
            dueForFar("get(list, 0)", l -> x.get(l, 0), NO);
        });
        sentence("nothing there", () -> {
            CommaFreeBooks x = new CommaFreeBooks();
            row(x, 0, 7, 8);
            for (int l = 1; l <= 3; l++) {
                int list = l;
                dueFor("get(" + l + ", i) of nothing", i -> x.get(list, i), NO, -1, 0, 1, 11);
            }
        });
        sentence("no such place.", () -> {
            CommaFreeBooks x = new CommaFreeBooks();
            row(x, 0, 7, 8);
            row(x, 1, 9);
            row(x, 2);
            dueFor("get(2, i) of none", i -> x.get(2, i), NO, -1, 0);
            dueFor("get(0, i) of two", i -> x.get(0, i), NO, -1, 2, 11, 12, -12);
            dueForFar("get(0, i) of two", i -> x.get(0, i), NO);
            dueFor("get(1, i) of one", i -> x.get(1, i), NO, -1, -12, -11, 1);
        });
    }

    private void imageAndUndo() {
        part("Promise 36");
        sentence("THE IMAGE is taken: how many WORDS THE BOOK has.", () -> {
            due("of no words", made(2, 3).image(), 0);
            due("of all 256", filled(4, 4).image(), 256);
            CommaFreeBooks x = made(2, 3, 1);
            due("of one", x.image(), 1);
            x.add(3);
            due("of two, in place of it", x.image(), 2);
            x.clear();
            due("undo() is of the latest", x.undo(), 2);
        });
        part("Promise 37");
        sentence("STATE: there is none.", () -> {
            CommaFreeBooks x = made(2, 3, 1);
            due("undo()", x.undo(), STATE);
            due("count(3) behind it", x.count(3), 1);
            due("undo() at first", new CommaFreeBooks().undo(), STATE);
            x.image();
            due("undo() when there is one", x.undo(), 1);
        });
        sentence("All is as THE IMAGE: how many WORDS THE BOOK has.", () -> {
            CommaFreeBooks x = made(2, 3, 1);
            x.image();
            x.add(3);
            cast(x, "ab");
            x.plan(0, 1);
            due("undo()", x.undo(), 1);
            dueCounts("behind it", x, 2, 3, 8, 1, 0, 0, 0, 0);
            due("drop(3), that had come", x.drop(3), STATE);
            x.add(5);
            due("undo() once more", x.undo(), 1);
            dueWords("behind it", x, 1);
            x.plan(0, 7);
            x.image();
            x.plan(-1, 0);
            x.plan(1, 1);
            due("undo() of a plan of other rows", x.undo(), 1);
            due("behind(0) of the image's rows", x.behind(0), 2);
            x.plan(-1, 0);
            x.image();
            x.size(4, 4);
            x.add(255);
            due("undo() behind size", x.undo(), 1);
            dueCounts("behind it", x, 2, 3, 8, 1, 0, 0, 0, 0, 4);
            due("add(255) behind it", x.add(255), NONE);
            due("undo() with nothing to undo", x.undo(), 1);
            dueOtherStrip();
            CommaFreeBooks none = made(2, 3);
            none.image();
            none.add(1);
            due("undo() of no words", none.undo(), 0);
            dueLargerImage();
        });
    }

    private void dueOtherStrip() {
        CommaFreeBooks x = made(3, 3, 5);
        cast(x, "abc");
        x.image();
        x.tear(3);
        cast(x, "cab");
        due("undo() of a strip of other letters", x.undo(), 1);
        due("possible(3) of the image's letters", x.possible(3), 1);
    }

    private void dueLargerImage() {
        CommaFreeBooks x = made(4, 4, 255);
        cast(x, "d".repeat(40));
        for (int i = 0; i < 8; i++) {
            x.plan(0, i);
        }
        x.image();
        x.size(2, 1);
        due("undo() of a larger one", x.undo(), 1);
        dueCounts("behind it", x, 4, 4, 256, 1, 40, 0, 0, 8, 48);
        due("possible(40) behind it", x.possible(40), 15);
        due("behind(0) behind it", x.behind(0), 9);
    }

    private void count() {
        part("Promise 38");
        sentence("How many: 0 LETTERS, 1 LENGTH, 2 SIZE, 3 WORDS of THE BOOK, 4 letters of THE STRIP, 5 bytes on THE TAPE, 6 of THE PAPER, 7 ROWS of the PLAN, 8 SWAPS.", () -> {
            CommaFreeBooks x = made(3, 2, 1, 2);
            cast(x, "abc");
            feed(x, "abca");
            x.write();
            for (int i = 0; i < 6; i++) {
                x.plan(0, 0);
            }
            dueCounts("of each", x, 3, 2, 9, 2, 3, 4, 5, 6, 12);
            due("SWAPS of 2", made(2, 1).count(8), 4);
            due("SWAPS of 4", made(4, 1).count(8), 48);
        });
        sentence("8 SWAPS. BAD.", () -> {
            CommaFreeBooks x = made(3, 2, 1, 2);
            dueFor("count", x::count, BAD, -1, -2, 9, 10);
            dueForFar("count", x::count, BAD);
        });
    }

    @Override
    void tell() {
        aNewObject();
        size();
        add();
        drop();
        clear();
        word();
        letter();
        hides();
        clash();
        may();
        mays();
        ring();
        bound();
        great();
        swapped();
        swap();
        keeps();
        castAndSpell();
        tearAndPossible();
        certainAndDelay();
        odds();
        plan();
        behind();
        feedAndBook();
        whyAndPaper();
        judgeAndList();
        putAndGet();
        imageAndUndo();
        count();
    }

    public static void main(String[] args) throws IOException {
        new BoundaryTest().goThrough();
    }
}

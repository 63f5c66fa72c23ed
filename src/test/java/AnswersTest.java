import java.io.IOException;
import java.util.ArrayList;
import java.util.List;
import java.util.function.Supplier;

/** The sentences of 'Answers' and 'Not promised', for each call that they are about. */
public final class AnswersTest extends Sentences {
    private interface Call {
        long of(CommaFreeBooks x);
    }

    // ---- all that is held, read so that nothing of it can hide

    /** All that can be asked; then, by calls that change it, the tape, the plan, the strip, the image. */
    private static List<Long> readAll(CommaFreeBooks x) {
        List<Long> row = new ArrayList<>();
        readAsked(x, row);
        row.add((long) x.book());
        readBook(x, row);
        readWhy(x, row);
        x.clear();
        readBehind(x, row);
        readStrip(x, row);
        row.add((long) x.undo());
        readBook(x, row);
        readBehind(x, row);
        x.clear();
        readStrip(x, row);
        return row;
    }

    private static void readAsked(CommaFreeBooks x, List<Long> row) {
        readBook(x, row);
        readWhy(x, row);
        readBehind(x, row);
        for (int i = 0; i <= x.count(6); i++) {
            row.add((long) x.paper(i));
        }
        for (int l = 0; l < 4; l++) {
            row.add((long) x.judge(l));
            for (int i = 0; i < 12; i += l == 0 ? 1 : 4) {
                row.add(x.get(l, i));
            }
        }
        for (int k = 0; k <= x.count(4); k += 3) {
            row.add((long) x.possible(k));
        }
    }

    private static void readBook(CommaFreeBooks x, List<Long> row) {
        for (int i = 0; i <= 8; i++) {
            row.add((long) x.count(i));
        }
        int words = x.count(3);
        for (int i = 0; i <= words; i++) {
            row.add((long) x.word(i));
        }
        row.add((long) x.clash(2));
        row.add((long) x.mays(-1));
    }

    private static void readWhy(CommaFreeBooks x, List<Long> row) {
        for (int i = 0; i < 3; i++) {
            row.add((long) x.why(i));
        }
    }

    private static void readBehind(CommaFreeBooks x, List<Long> row) {
        for (int what = 0; what < 3; what++) {
            row.add((long) x.behind(what));
        }
    }

    /** Each letter, from the front, by the books of one word of that letter alone. */
    private static void readStrip(CommaFreeBooks x, List<Long> row) {
        int lastLetter = x.count(0) - 1;
        int step = (x.count(2) - 1) / lastLetter;
        int letters = x.count(4);
        for (int j = 0; j < letters; j++) {
            int c = 0;
            while (c < lastLetter && !beginsWith(x, c * step)) {
                c++;
            }
            row.add((long) c);
            x.tear(1);
        }
    }

    private static boolean beginsWith(CommaFreeBooks x, int word) {
        x.add(word);
        boolean begins = x.possible(1) != 0;
        x.drop(word);
        return begins;
    }

    // ---- objects of which each part holds something

    private static CommaFreeBooks rich() {
        CommaFreeBooks x = made(2, 3, 1, 5);
        cast(x, "bab");
        x.plan(0, 7);
        x.image();
        x.size(3, 2);
        told(x, "ab c");
        told(x, "ab ac bc");
        x.write();
        x.drop(2);
        cast(x, "abacbc");
        x.plan(0, 3);
        x.plan(2, 8);
        x.plan(3, 6);
        row(x, 0, 1, 5, -1, 7);
        row(x, 2, 1, 2, 5);
        row(x, 3);
        feed(x, "cc ba");
        return x;
    }

    /** No room is left on the strip, on the tape, in the plan. */
    private static CommaFreeBooks full() {
        CommaFreeBooks x = made(2, 3, 0, 1, 6);
        cast(x, "aab".repeat(13) + "b");
        for (int i = 0; i < 8; i++) {
            x.plan(i % 2, i);
        }
        feed(x, "aab abb ");
        feed(x, "\u007f".repeat(52));
        row(x, 1, 4, 4, 4, 4, 4, 4, 4, 4, 4, 4, 4, 4);
        return x;
    }

    private static CommaFreeBooks large() {
        CommaFreeBooks x = made(4, 4, 27, 255, 1);
        cast(x, "dcba");
        x.plan(2, 47);
        feed(x, "abcd");
        x.image();
        return x;
    }

    private static CommaFreeBooks atFirst() {
        return new CommaFreeBooks();
    }

    private void dueUnchanged(String call, Supplier<CommaFreeBooks> state, Call asked, long want) {
        CommaFreeBooks x = state.get();
        due(call, asked.of(x), want);
        dueSame("all that is held behind " + call, readAll(x), readAll(state.get()));
    }

    // ---- what is refused

    private void refusedWords() {
        dueUnchanged("size(1, 3)", AnswersTest::rich, x -> x.size(1, 3), BAD);
        dueUnchanged("size(5, 2)", AnswersTest::rich, x -> x.size(5, 2), BAD);
        dueUnchanged("size(2, 0)", AnswersTest::rich, x -> x.size(2, 0), BAD);
        dueUnchanged("size(3, 6)", AnswersTest::rich, x -> x.size(3, 6), BAD);
        dueUnchanged("size(4, 5)", AnswersTest::large, x -> x.size(4, 5), BAD);
        dueUnchanged("add(9)", AnswersTest::rich, x -> x.add(9), NONE);
        dueUnchanged("add(-1)", AnswersTest::rich, x -> x.add(-1), NONE);
        dueUnchanged("add(256)", AnswersTest::large, x -> x.add(256), NONE);
        dueUnchanged("add(5)", AnswersTest::rich, x -> x.add(5), STATE);
        dueUnchanged("drop(9)", AnswersTest::rich, x -> x.drop(9), NONE);
        dueUnchanged("drop(-1)", AnswersTest::rich, x -> x.drop(-1), NONE);
        dueUnchanged("drop(2)", AnswersTest::rich, x -> x.drop(2), STATE);
        dueUnchanged("word(2)", AnswersTest::rich, x -> x.word(2), NOT);
        dueUnchanged("letter(9, 0)", AnswersTest::rich, x -> x.letter(9, 0), NONE);
        dueUnchanged("hides(9, 0, 0)", AnswersTest::rich, x -> x.hides(9, 0, 0), NONE);
        dueUnchanged("clash(4)", AnswersTest::full, x -> x.clash(4), NONE);
        dueUnchanged("clash(0)", AnswersTest::rich, x -> x.clash(0), NOT);
        dueUnchanged("may(9)", AnswersTest::rich, x -> x.may(9), NONE);
        dueUnchanged("mays(9)", AnswersTest::rich, x -> x.mays(9), NOT);
    }

    private void refusedRings() {
        dueUnchanged("ring(9, 0)", AnswersTest::rich, x -> x.ring(9, 0), NONE);
        dueUnchanged("ring(0, 2)", AnswersTest::rich, x -> x.ring(0, 2), NOT);
        dueUnchanged("bound(3)", AnswersTest::rich, x -> x.bound(3), NOT);
        dueUnchanged("great(-4, 0)", AnswersTest::rich, x -> x.great(-4, 0), NOT);
        dueUnchanged("great(0, 3)", AnswersTest::rich, x -> x.great(0, 3), NOT);
        dueUnchanged("great(0, 0) of 256", AnswersTest::large, x -> x.great(0, 0), STATE);
        dueUnchanged("swapped(12, 0)", AnswersTest::rich, x -> x.swapped(12, 0), NONE);
        dueUnchanged("swap(12)", AnswersTest::rich, x -> x.swap(12), NONE);
        dueUnchanged("swap(-1)", AnswersTest::rich, x -> x.swap(-1), NONE);
        dueUnchanged("swap(48)", AnswersTest::large, x -> x.swap(48), NONE);
        dueUnchanged("keeps(12)", AnswersTest::rich, x -> x.keeps(12), NOT);
    }

    private void refusedStrip() {
        dueUnchanged("cast(3)", AnswersTest::rich, x -> x.cast(3), BAD);
        dueUnchanged("cast(-1)", AnswersTest::rich, x -> x.cast(-1), BAD);
        dueUnchanged("cast(0) of 40", AnswersTest::full, x -> x.cast(0), FULL);
        dueUnchanged("spell(9)", AnswersTest::rich, x -> x.spell(9), NONE);
        dueUnchanged("spell(1) of 40", AnswersTest::full, x -> x.spell(1), FULL);
        dueUnchanged("spell(7) of 38", AnswersTest::twoLeft, x -> x.spell(7), FULL);
        dueUnchanged("tear(7)", AnswersTest::rich, x -> x.tear(7), BAD);
        dueUnchanged("tear(-1)", AnswersTest::rich, x -> x.tear(-1), BAD);
        dueUnchanged("tear(1) of none", AnswersTest::atFirst, x -> x.tear(1), BAD);
        dueUnchanged("possible(7)", AnswersTest::rich, x -> x.possible(7), BAD);
        dueUnchanged("certain(2)", AnswersTest::rich, x -> x.certain(2), NONE);
        dueUnchanged("delay() of 256", AnswersTest::large, CommaFreeBooks::delay, STATE);
    }

    private static CommaFreeBooks twoLeft() {
        CommaFreeBooks x = full();
        x.tear(2);
        return x;
    }

    private void refusedPlansAndTexts() {
        dueUnchanged("odds(13, 0, 1, 0)", AnswersTest::rich, x -> x.odds(13, 0, 1, 0), NO);
        dueUnchanged("plan(4, 0)", AnswersTest::rich, x -> x.plan(4, 0), NONE);
        dueUnchanged("plan(-2, 0)", AnswersTest::rich, x -> x.plan(-2, 0), NONE);
        dueUnchanged("plan(0, 256)", AnswersTest::rich, x -> x.plan(0, 256), BAD);
        dueUnchanged("plan(2, 48)", AnswersTest::rich, x -> x.plan(2, 48), BAD);
        dueUnchanged("plan(0, 0) of 8", AnswersTest::full, x -> x.plan(0, 0), FULL);
        dueUnchanged("behind(3)", AnswersTest::rich, x -> x.behind(3), NONE);
        dueUnchanged("feed(0)", AnswersTest::rich, x -> x.feed(0), BAD);
        dueUnchanged("feed(128)", AnswersTest::rich, x -> x.feed(128), BAD);
        dueUnchanged("feed(97) of 60", AnswersTest::full, x -> x.feed(97), FULL);
        dueUnchanged("why(3)", AnswersTest::rich, x -> x.why(3), NONE);
        dueUnchanged("paper(8)", AnswersTest::rich, x -> x.paper(8), NONE);
    }

    private void refusedLists() {
        dueUnchanged("judge(4)", AnswersTest::rich, x -> x.judge(4), NONE);
        dueUnchanged("judge(1)", AnswersTest::rich, x -> x.judge(1), NOTHING);
        dueUnchanged("list(4, 1)", AnswersTest::rich, x -> x.list(4, 1), NONE);
        dueUnchanged("list(0, 13)", AnswersTest::rich, x -> x.list(0, 13), BAD);
        dueUnchanged("list(0, -1)", AnswersTest::rich, x -> x.list(0, -1), BELOW);
        dueUnchanged("put(-1, 0, 9)", AnswersTest::rich, x -> x.put(-1, 0, 9), NONE);
        dueUnchanged("put(1, 0, 9)", AnswersTest::rich, x -> x.put(1, 0, 9), NOTHING);
        dueUnchanged("put(0, 4, 9)", AnswersTest::rich, x -> x.put(0, 4, 9), BEYOND);
        dueUnchanged("put(3, 0, 9)", AnswersTest::rich, x -> x.put(3, 0, 9), BEYOND);
        dueUnchanged("put(0, -1, 9)", AnswersTest::rich, x -> x.put(0, -1, 9), BEYOND);
        dueUnchanged("get(1, 0)", AnswersTest::rich, x -> x.get(1, 0), NO);
        dueUnchanged("undo()", AnswersTest::full, CommaFreeBooks::undo, STATE);
        dueUnchanged("undo() at first", AnswersTest::atFirst, CommaFreeBooks::undo, STATE);
        dueUnchanged("count(9)", AnswersTest::rich, x -> x.count(9), BAD);
    }

    // ---- what is asked

    private record Asked(String name, Call call) {
    }

    private static final List<Asked> ASKED = List.of(
        new Asked("word(0)", x -> x.word(0)),
        new Asked("letter(1, 0)", x -> x.letter(1, 0)),
        new Asked("hides(1, 1, 2)", x -> x.hides(1, 1, 2)),
        new Asked("clash(0)", x -> x.clash(0)),
        new Asked("may(5)", x -> x.may(5)),
        new Asked("may(2)", x -> x.may(2)),
        new Asked("mays(-1)", x -> x.mays(-1)),
        new Asked("mays(0)", x -> x.mays(0)),
        new Asked("ring(1, 2)", x -> x.ring(1, 2)),
        new Asked("bound(0)", x -> x.bound(0)),
        new Asked("great(-3, 0)", x -> x.great(-3, 0)),
        new Asked("great(0, 0)", x -> x.great(0, 0)),
        new Asked("swapped(3, 1)", x -> x.swapped(3, 1)),
        new Asked("keeps(-1)", x -> x.keeps(-1)),
        new Asked("keeps(0)", x -> x.keeps(0)),
        new Asked("possible(3)", x -> x.possible(3)),
        new Asked("certain(0)", x -> x.certain(0)),
        new Asked("delay()", CommaFreeBooks::delay),
        new Asked("odds(12, 5, 30, 0)", x -> x.odds(12, 5, 30, 0)),
        new Asked("odds(1, 5, 7, 1)", x -> x.odds(1, 5, 7, 1)),
        new Asked("behind(0)", x -> x.behind(0)),
        new Asked("behind(2)", x -> x.behind(2)),
        new Asked("why(0)", x -> x.why(0)),
        new Asked("paper(0)", x -> x.paper(0)),
        new Asked("judge(0)", x -> x.judge(0)),
        new Asked("get(0, 0)", x -> x.get(0, 0)),
        new Asked("count(8)", x -> x.count(8)));
    private static final List<Supplier<CommaFreeBooks>> STATES = List.of(
        AnswersTest::rich, AnswersTest::full, AnswersTest::large, AnswersTest::atFirst);

    private void asking() {
        for (Supplier<CommaFreeBooks> state : STATES) {
            for (Asked asked : ASKED) {
                CommaFreeBooks x = state.get();
                long first = asked.call.of(x);
                due(asked.name + " asked again", asked.call.of(x), first);
                dueSame("all that is held behind " + asked.name, readAll(x), readAll(state.get()));
            }
        }
    }

    /** What is asked answers the same, whatever else was asked ahead of it. */
    private void askingBehindAsking() {
        for (Supplier<CommaFreeBooks> state : STATES) {
            for (Asked asked : ASKED) {
                long alone = asked.call.of(state.get());
                for (Asked ahead : ASKED) {
                    CommaFreeBooks x = state.get();
                    ahead.call.of(x);
                    due(asked.name + " behind " + ahead.name, asked.call.of(x), alone);
                }
            }
        }
    }

    /** Behind write() all is as behind the like object's write(), and all but the paper as it was. */
    private void writing() {
        CommaFreeBooks x = rich();
        due("write()", x.write(), 5);
        duePaper("behind it", x, "ab bc");
        CommaFreeBooks like = rich();
        like.write();
        List<Long> behind = readAll(x);
        dueSame("written twice", writtenTwice(), behind);
        dueWords("behind write()", rewritten(), 1, 5);
        due("count(5) behind write()", rewritten().count(5), 5);
        due("book() behind write()", rewritten().book(), 2);
        dueWhy("behind write()", rewritten(), 1, 1, 4);
        due("possible(2) behind write()", rewritten().possible(2), rich().possible(2));
        due("behind(0) behind write()", rewritten().behind(0), rich().behind(0));
        due("get(0, 3) behind write()", rewritten().get(0, 3), 7);
    }

    private static CommaFreeBooks rewritten() {
        CommaFreeBooks x = rich();
        x.write();
        return x;
    }

    private static List<Long> writtenTwice() {
        CommaFreeBooks x = rewritten();
        x.write();
        return readAll(x);
    }

    // ---- which answer comes first

    private void firstNamed() {
        CommaFreeBooks x = full();
        due("letter: neither word nor i", x.letter(8, 3), NONE);
        due("clash: no such what, of a free book", rich().clash(4), NONE);
        due("ring: no such word, what 2", x.ring(8, 2), NONE);
        due("ring: no such what, a ring that isn't whole", x.ring(0, 4), NONE);
        due("great: SIZE too great, no such book", large().great(-4, 0), STATE);
        due("great: SIZE too great, no such ring", large().great(0, 60), STATE);
        due("swapped: neither swap nor word", x.swapped(4, 8), NONE);
        due("cast: no such letter, no room", x.cast(2), BAD);
        due("cast: a letter, no room", x.cast(1), FULL);
        due("spell: no such word, no room", x.spell(8), NONE);
        due("spell: a word, no room", x.spell(7), FULL);
        due("certain: no such what, never certain", new CommaFreeBooks().certain(2), NONE);
        due("plan: no such what, no such v, no room", x.plan(4, 256), NONE);
        due("plan: no such v, no room", x.plan(0, 256), BAD);
        due("plan: no room", x.plan(0, 255), FULL);
        due("behind: no such what, no words", new CommaFreeBooks().behind(3), NONE);
        due("feed: no such byte, no room", x.feed(128), BAD);
        due("feed: no room", x.feed(127), FULL);
        due("judge: no such list", x.judge(4), NONE);
        due("list: no such list, n too great", x.list(4, 13), NONE);
        due("list: no such list, n too small", x.list(-1, -1), NONE);
        due("put: no such list, no such place", x.put(4, 12, 1), NONE);
        due("put: nothing, no such place", x.put(0, 12, 1), NOTHING);
        due("put: no such place", x.put(1, 12, 1), BEYOND);
    }

    private void fractions() {
        CommaFreeBooks x = made(2, 2);
        int[][] due = {{1, 0, 30, 7, 15}, {1, 1, 30, 1, 2}, {12, 0, 30, 0, 1}, {12, 0, 1, 0, 1}, {1, 1, 1, 1, 1},
            {2, 1, 30, 2, 15}, {2, -1, 30, 1, 6}, {1, 1, 2, 1, 2}};
        for (int[] d : due) {
            due("odds(" + d[0] + ", " + d[1] + ", " + d[2] + ", 0)", x.odds(d[0], d[1], d[2], 0), d[3]);
            due("odds(" + d[0] + ", " + d[1] + ", " + d[2] + ", 1)", x.odds(d[0], d[1], d[2], 1), d[4]);
        }
        due("a whole one of 30, above", made(2, 1).odds(12, 0, 30, 0), 1);
        due("a whole one of 30, below", made(2, 1).odds(12, 0, 30, 1), 1);
    }

    private void constants() {
        sentence("NONE (-1) no such number; BAD (-2) a number is not as told; STATE (-3) as told; FULL (-4); NOT (-5) as told", () -> {
            due("NONE", CommaFreeBooks.NONE, -1);
            due("BAD", CommaFreeBooks.BAD, -2);
            due("STATE", CommaFreeBooks.STATE, -3);
            due("FULL", CommaFreeBooks.FULL, -4);
            due("NOT", CommaFreeBooks.NOT, -5);
        });
        sentence("NO: Long.MIN_VALUE", () -> {
            due("NO", CommaFreeBooks.NO, Long.MIN_VALUE);
            due("odds that are none", new CommaFreeBooks().odds(0, 0, 0, 0), Long.MIN_VALUE);
            due("get of nothing", new CommaFreeBooks().get(0, 0), Long.MIN_VALUE);
        });
    }

    private void tapeIsEmpty() {
        sentence("-100 less a FAULT", () -> {
            due("of fault 0", told(made(2, 3), ""), -100);
            due("of fault 1", told(made(2, 3), "a"), -101);
            due("of fault 10", told(made(2, 3), "aab abb aab"), -110);
            due("of fault 60", told(made(2, 5), "aaaaa aaaab aaaba aaabb aabaa aabab aabba aabbb abaaa abaab "), -160);
        });
        sentence("THE TAPE is empty behind each call that reads it", () -> {
            CommaFreeBooks x = made(2, 3);
            due("a text that is right", told(x, "aab"), 1);
            due("count(5) behind it", x.count(5), 0);
            due("read again", x.book(), -100);
            due("a text with a fault in its middle", told(x, "aab  abb"), -104);
            due("count(5) behind it", x.count(5), 0);
            due("read again", x.book(), -100);
            due("a text that ends too early", told(x, "aa"), -102);
            due("what comes next is told from its beginning", told(x, "abb"), 1);
            due("the first byte", x.feed(97), 1);
        });
    }

    @Override
    void tell() {
        part("Answers");
        constants();
        sentence("the first that a call's words name", this::firstNamed);
        sentence("What is answered so changes nothing", () -> {
            refusedWords();
            refusedRings();
            refusedStrip();
            refusedPlansAndTexts();
            refusedLists();
        });
        sentence("what is asked changes nothing but THE PAPER", () -> {
            asking();
            askingBehindAsking();
            writing();
        });
        tapeIsEmpty();
        sentence("Of fractions part 0 is above, 1 below the line, in lowest terms (0: 0 by 1)", this::fractions);
    }

    public static void main(String[] args) throws IOException {
        new AnswersTest().goThrough();
    }
}

import java.io.IOException;
import java.nio.charset.StandardCharsets;
import java.nio.file.Files;
import java.nio.file.Path;
import java.util.ArrayList;
import java.util.List;

/** Tests of the document's sentences: each sentence that names a boundary case has one of its own. */
abstract class Sentences {
    static final int NONE = -1, BAD = -2, STATE = -3, FULL = -4, NOT = -5;
    static final int NOTHING = -11, BEYOND = -13, BELOW = -14;
    static final long NO = Long.MIN_VALUE;
    static final int MIN = Integer.MIN_VALUE, MAX = Integer.MAX_VALUE;
    /** Numbers that are no number of anything that is counted from 0. */
    static final int[] FAR = {MIN, MIN + 1, -65536, -257, 257, 65536, 1 << 30, MAX - 1, MAX};

    private static final Path DOCUMENT = Path.of("../shared/DOC.md");

    private final List<String> told = new ArrayList<>();
    private String part = "";
    private String sentence = "";
    private int asked;
    private int wrong;

    /** Tells all sentences, by part and sentence. */
    abstract void tell();

    void part(String name) {
        part = name;
    }

    void sentence(String words, Runnable test) {
        sentence = words;
        told.add(words);
        int before = asked;
        test.run();
        if (asked == before) {
            fault("nothing is asked");
        }
    }

    private void fault(String what) {
        wrong++;
        System.out.println(part + ", '" + sentence + "': " + what);
    }

    void due(String call, long got, long want) {
        asked++;
        if (got != want) {
            fault(call + " answered " + got + ", due is " + want);
        }
    }

    void dueSame(String when, List<Long> got, List<Long> want) {
        asked++;
        if (!got.equals(want)) {
            fault(when + ": " + got + ", due is " + want);
        }
    }

    static CommaFreeBooks made(int q, int n, int... words) {
        CommaFreeBooks x = new CommaFreeBooks();
        x.size(q, n);
        for (int w : words) {
            x.add(w);
        }
        return x;
    }

    /** All words of so many letters and such a length, in the book. */
    static CommaFreeBooks filled(int q, int n) {
        CommaFreeBooks x = new CommaFreeBooks();
        int end = x.size(q, n);
        for (int w = 0; w < end; w++) {
            x.add(w);
        }
        return x;
    }

    static void feed(CommaFreeBooks x, String text) {
        for (int i = 0; i < text.length(); i++) {
            x.feed(text.charAt(i));
        }
    }

    static int told(CommaFreeBooks x, String text) {
        feed(x, text);
        return x.book();
    }

    static void cast(CommaFreeBooks x, String letters) {
        for (int i = 0; i < letters.length(); i++) {
            x.cast(letters.charAt(i) - 'a');
        }
    }

    static void row(CommaFreeBooks x, int list, int... ints) {
        x.list(list, ints.length);
        for (int i = 0; i < ints.length; i++) {
            x.put(list, i, ints[i]);
        }
    }

    void dueWords(String when, CommaFreeBooks x, int... words) {
        due("count(3) " + when, x.count(3), words.length);
        for (int i = 0; i < words.length; i++) {
            due("word(" + i + ") " + when, x.word(i), words[i]);
        }
    }

    void duePaper(String when, CommaFreeBooks x, String text) {
        due("count(6) " + when, x.count(6), text.length());
        for (int i = 0; i < text.length(); i++) {
            due("paper(" + i + ") " + when, x.paper(i), text.charAt(i));
        }
    }

    void dueWhy(String when, CommaFreeBooks x, int words, int letters, int fault) {
        due("why(0) " + when, x.why(0), words);
        due("why(1) " + when, x.why(1), letters);
        due("why(2) " + when, x.why(2), fault);
    }

    void dueClash(String when, CommaFreeBooks x, int u, int v, int k, int w) {
        due("clash(0) " + when, x.clash(0), u);
        due("clash(1) " + when, x.clash(1), v);
        due("clash(2) " + when, x.clash(2), k);
        due("clash(3) " + when, x.clash(3), w);
    }

    /** A document that has become another one is no fault of the class, so this only tells of it. */
    private void lookUpSentences() throws IOException {
        if (!Files.isReadable(DOCUMENT)) {
            return;
        }
        String text = Files.readString(DOCUMENT, StandardCharsets.UTF_8);
        for (String s : told) {
            if (!text.contains(s)) {
                System.out.println("note: the document has no '" + s + "'");
            }
        }
    }

    void goThrough() throws IOException {
        tell();
        lookUpSentences();
        System.out.println(told.size() + " sentences, " + (wrong == 0 ? "all hold" : wrong + " faults"));
        if (wrong != 0) {
            System.exit(1);
        }
    }
}

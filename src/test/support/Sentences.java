import java.io.IOException;
import java.io.UncheckedIOException;
import java.nio.charset.StandardCharsets;
import java.nio.file.Files;
import java.nio.file.Path;
import java.util.ArrayList;
import java.util.HashMap;
import java.util.List;
import java.util.Map;
import java.util.Set;
import java.util.TreeSet;

/** What the tests of single sentences share: each test names the words of the document that it is for. */
final class Sentences {
    static final String INDEX = "IndexOutOfBoundsException";
    static final String ARGUMENT = "IllegalArgumentException";
    static final String STATE = "IllegalStateException";
    static final String ELEMENT = "NoSuchElementException";

    static final int[] FAR = {Integer.MIN_VALUE, Integer.MIN_VALUE + 1, -1001, -10, -2, 10000, 65536,
        Integer.MAX_VALUE - 1, Integer.MAX_VALUE};

    private static final Map<String, String> DOCUMENT = sections(Path.of("../shared/DOC.md"));
    private static final Set<String> tested = new TreeSet<>();
    private static String now = "";
    private static int tests = 0;
    private static int wrong = 0;
    private static boolean isWrong = false;

    interface Test {
        void run();
    }

    interface Call {
        long answer();
    }

    interface VoidCall {
        void run();
    }

    private Sentences() {
    }

    /** The document's text by its headings; a promise's heading is cut off behind its number. */
    private static Map<String, String> sections(Path path) {
        Map<String, String> sections = new HashMap<>();
        String heading = "";
        try {
            for (String line : Files.readAllLines(path, StandardCharsets.UTF_8)) {
                if (line.startsWith("#")) {
                    heading = line.replaceFirst("^#+ ", "").replaceFirst("^(Promise \\d+):.*", "$1");
                }
                sections.merge(heading, line, (before, more) -> before + " " + more);
            }
        } catch (IOException e) {
            throw new UncheckedIOException(e);
        }
        return sections;
    }

    /** Runs the test of words that stand in a section of the document. */
    static void sentence(String section, String words, Test test) {
        now = section + ", \"" + words + "\"";
        isWrong = false;
        tests++;
        tested.add(section);
        if (!DOCUMENT.getOrDefault(section, "").contains(words)) {
            fail("these words do not stand there");
        }
        try {
            test.run();
        } catch (RuntimeException e) {
            fail("threw " + e + " at " + e.getStackTrace()[0]);
        }
        wrong += isWrong ? 1 : 0;
    }

    private static void fail(String what) {
        isWrong = true;
        System.out.println(now + ": " + what);
    }

    static void due(String what, long got, long want) {
        if (got != want) {
            fail(what + " answered " + got + ", due is " + want);
        }
    }

    static void due(String what, String got, String want) {
        if (!got.equals(want)) {
            fail(what + " gave " + got + ", due is " + want);
        }
    }

    static void due(String what, boolean got) {
        if (!got) {
            fail(what + " is not so");
        }
    }

    static void dueRow(String what, int[] got, int... want) {
        due(what, java.util.Arrays.toString(got), java.util.Arrays.toString(want));
    }

    static void refused(String want, String what, Call call) {
        due(what, outcome(call), want);
    }

    static void refusedRun(String want, String what, VoidCall call) {
        refused(want, what, () -> {
            call.run();
            return 0;
        });
    }

    /** The answer, or the name of what is thrown, with a mark if no throw statement of the class threw it. */
    static String outcome(Call call) {
        try {
            return Long.toString(call.answer());
        } catch (RuntimeException e) {
            StackTraceElement[] trace = e.getStackTrace();
            boolean isOwn = trace.length > 0 && trace[0].getClassName().startsWith("Thumbreel");
            return (isOwn ? "" : "not by the class: ") + e.getClass().getSimpleName();
        }
    }

    /** Ends the tests of a file; each of its sections must have had one. */
    static void finish(String... sections) {
        for (String section : sections) {
            if (!tested.contains(section)) {
                now = section;
                fail("no sentence of it was tested");
                wrong++;
            }
        }
        System.out.println(tests + " sentences, " + wrong + " failed");
        if (wrong != 0) {
            System.exit(1);
        }
    }

    // ---- objects to test on

    /** One book of drawings without in-betweens at these positions. */
    static Thumbreel withBook(int... positions) {
        Thumbreel x = new Thumbreel();
        x.addBook();
        addDrawings(x, 0, positions);
        return x;
    }

    /** The same book, and one order for it. */
    static Thumbreel withOrder(int copies, int... positions) {
        Thumbreel x = withBook(positions);
        x.order(0, copies);
        return x;
    }

    static void addDrawings(Thumbreel x, int book, int... positions) {
        for (int i = 0; i < positions.length; i++) {
            x.draw(book, i, positions[i], 0, Thumbreel.EVEN);
        }
    }

    /** A book of eight drawings with five in-betweens each: 43 frames, the most that there can be. */
    static void fillBook(Thumbreel x, int book) {
        for (int i = 0; i < 8; i++) {
            x.draw(book, i, 100 * i, 5, Thumbreel.EVEN);
        }
    }

    /** Prints and cuts sheets of one leaf each; book 0 and order 0 must be of one drawing and one copy. */
    static void dull(Thumbreel x, int knife, int cuts) {
        for (int i = 0; i < cuts; i++) {
            printOne(x);
            x.cut(knife);
        }
    }

    /** Prints a sheet of one leaf; book 0 and order 0 must be of one drawing and one copy. */
    static void printOne(Thumbreel x) {
        x.move(0, 0, 1 - x.frameAt(0, 0));
        x.print(1);
    }

    /** Order 0 is for dulling; the copy of order 1 has a leaf for each of these trims, all cut. */
    static Thumbreel withTrims(int... trims) {
        Thumbreel x = withOrder(1, 0);
        x.addBook();
        x.order(1, 1);
        for (int i = 0; i < trims.length; i++) {
            x.sharpen(0);
            dull(x, 0, 4 * trims[i]);
            x.draw(1, i, 10 * i, 0, Thumbreel.EVEN);
            x.print(1);
            x.cut(0);
        }
        return x;
    }

    static void cutAll(Thumbreel x, int knife) {
        for (int i = x.waiting(); i > 0; i--) {
            x.cut(knife);
        }
    }

    static int[] frameRow(Thumbreel x, int book) {
        int[] row = new int[x.frames(book)];
        for (int i = 0; i < row.length; i++) {
            row[i] = x.frameAt(book, i);
        }
        return row;
    }

    static int[] cellRow(Thumbreel x) {
        return row(8, place -> x.cellOf(place));
    }

    static int[] placeRow(Thumbreel x) {
        return row(8, cell -> x.placeOf(cell));
    }

    static int[] sheetRow(Thumbreel x, int sheet) {
        return row(8, cell -> x.onSheet(sheet, cell));
    }

    /** What lies on a sheet, place by place, found by the folds as they are set. */
    static int[] pileRow(Thumbreel x, int sheet) {
        return row(8, place -> x.onSheet(sheet, x.cellOf(place)));
    }

    static int[] row(int size, java.util.function.IntUnaryOperator at) {
        int[] row = new int[size];
        for (int i = 0; i < size; i++) {
            row[i] = at.applyAsInt(i);
        }
        return row;
    }
}

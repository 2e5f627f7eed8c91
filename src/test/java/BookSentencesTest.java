/** The sentences about books and frames that name a boundary case: promises 1 to 7 and the terms behind them. */
public final class BookSentencesTest {
    private static final int[] CURVES = {Thumbreel.EVEN, Thumbreel.SLOW_IN, Thumbreel.SLOW_OUT, Thumbreel.BOTH};

    /** Two drawings, the first with in-betweens; what lies between the two. */
    private static int[] between(int from, int to, int betweens, int curve) {
        Thumbreel x = new Thumbreel();
        x.addBook();
        x.draw(0, 0, from, betweens, curve);
        x.draw(0, 1, to, 0, Thumbreel.EVEN);
        return Sentences.row(x.frames(0) - 2, i -> x.frameAt(0, i + 1));
    }

    private static void dueBetween(int from, int to, int curve, int... want) {
        String what = "from " + from + " to " + to + " by curve " + curve;
        Sentences.dueRow(what, between(from, to, want.length, curve), want);
    }

    private static void terms() {
        Sentences.sentence("Books and frames", "Books are numbered from 0, at most 4.", () -> {
            Thumbreel x = new Thumbreel();
            for (int book = 0; book < 4; book++) {
                int number = book;
                Sentences.refused(Sentences.INDEX, "a book yet to come", () -> x.frames(number));
                Sentences.due("addBook()", x.addBook(), book);
                Sentences.due("its frames", x.frames(book), 0);
            }
            Sentences.refused(Sentences.STATE, "a fifth book", () -> x.addBook());
            Sentences.refused(Sentences.INDEX, "book 4", () -> x.frames(4));
            Sentences.refused(Sentences.INDEX, "book -1", () -> x.frames(-1));
        });
        Sentences.sentence("Books and frames", "A book is a row of at most 8 drawings", () -> {
            Thumbreel x = Sentences.withBook(1, 2, 3, 4, 5, 6, 7);
            Sentences.due("the eighth", x.draw(0, 7, 8, 0, 0), 0);
            Sentences.refused(Sentences.STATE, "a ninth at the end", () -> x.draw(0, 8, 9, 0, 0));
            Sentences.refused(Sentences.STATE, "a ninth ahead of all", () -> x.draw(0, 0, 9, 0, 0));
            Sentences.dueRow("the row", Sentences.frameRow(x, 0), 1, 2, 3, 4, 5, 6, 7, 8);
            x.addBook();
            Sentences.addDrawings(x, 1, 8, 7, 6, 5, 4, 3, 2, 1);
            Sentences.dueRow("another book of eight", Sentences.frameRow(x, 1), 8, 7, 6, 5, 4, 3, 2, 1);
            x.erase(0, 7);
            Sentences.due("the eighth again", x.draw(0, 0, 0, 0, 0), 0);
            Sentences.dueRow("the new row", Sentences.frameRow(x, 0), 0, 1, 2, 3, 4, 5, 6, 7);
        });
        Sentences.sentence("Books and frames", "each has a position, 0 to 999", () -> {
            Thumbreel x = Sentences.withBook(0, 999);
            Sentences.dueRow("least and greatest", Sentences.frameRow(x, 0), 0, 999);
        });
        Sentences.sentence("Books and frames", "a number of in-betweens that come behind it, 0 to 5", () -> {
            for (int n = 0; n <= 5; n++) {
                Sentences.due("in-betweens of " + n, between(0, 60, n, 0).length, n);
            }
        });
        Sentences.sentence("Books and frames", "behind each of them, but for the last one, its in-betweens", () -> {
            Thumbreel x = new Thumbreel();
            x.addBook();
            x.draw(0, 0, 60, 5, 0);
            Sentences.dueRow("the only one is the last", Sentences.frameRow(x, 0), 60);
            x.draw(0, 0, 0, 2, 0);
            Sentences.dueRow("one ahead of it", Sentences.frameRow(x, 0), 0, 20, 40, 60);
            x.draw(0, 2, 0, 4, 0);
            Sentences.dueRow("one behind it", Sentences.frameRow(x, 0), 0, 20, 40, 60, 50, 40, 30, 20, 10, 0);
            x.erase(0, 2);
            Sentences.dueRow("the last again", Sentences.frameRow(x, 0), 0, 20, 40, 60);
        });
        Sentences.sentence("Books and frames", "frames are numbered from 0", () -> {
            Thumbreel x = Sentences.withBook(11, 12);
            Sentences.due("frame 0", x.frameAt(0, 0), 11);
            Sentences.due("frame 1", x.frameAt(0, 1), 12);
            Sentences.refused(Sentences.INDEX, "frame -1", () -> x.frameAt(0, -1));
            Sentences.refused(Sentences.INDEX, "frame 2", () -> x.frameAt(0, 2));
        });
    }

    private static void inBetweens() {
        Sentences.sentence("Books and frames", "the j-th one (from 1) is at a and (b - a) * p / q", () -> {
            dueBetween(0, 2, Thumbreel.EVEN, 1);
            dueBetween(2, 0, Thumbreel.EVEN, 1);
            dueBetween(100, 106, Thumbreel.EVEN, 101, 102, 103, 104, 105);
            dueBetween(106, 100, Thumbreel.EVEN, 105, 104, 103, 102, 101);
            for (int curve : CURVES) {
                dueBetween(7, 7, curve, 7, 7, 7, 7, 7);
                dueBetween(0, 999, curve);
            }
        });
        Sentences.sentence("Books and frames", "rounded toward 0, together", () -> {
            for (int curve : CURVES) {
                dueBetween(0, 1, curve, 0, 0, 0, 0, 0);
                dueBetween(1, 0, curve, 1, 1, 1, 1, 1);
                dueBetween(998, 999, curve, 998, 998, 998, 998, 998);
                dueBetween(999, 998, curve, 999, 999, 999, 999, 999);
            }
            dueBetween(100, 110, Thumbreel.EVEN, 101, 103, 105, 106, 108);
            dueBetween(110, 100, Thumbreel.EVEN, 109, 107, 105, 104, 102);
        });
        Sentences.sentence("Books and frames", "with N for n + 1, p / q is j / N for EVEN", () -> {
            dueBetween(0, 999, Thumbreel.EVEN, 499);
            dueBetween(0, 999, Thumbreel.EVEN, 199, 399, 599, 799);
            dueBetween(0, 999, Thumbreel.EVEN, 166, 333, 499, 666, 832);
            dueBetween(999, 0, Thumbreel.EVEN, 500);
            dueBetween(999, 0, Thumbreel.EVEN, 750, 500, 250);
            dueBetween(999, 0, Thumbreel.EVEN, 833, 666, 500, 333, 167);
        });
        Sentences.sentence("Books and frames", "j * j / (N * N) for SLOW_IN", () -> {
            dueBetween(0, 999, Thumbreel.SLOW_IN, 249);
            dueBetween(0, 999, Thumbreel.SLOW_IN, 111, 444);
            dueBetween(0, 999, Thumbreel.SLOW_IN, 27, 111, 249, 444, 693);
            dueBetween(999, 0, Thumbreel.SLOW_IN, 750);
            dueBetween(999, 0, Thumbreel.SLOW_IN, 972, 888, 750, 555, 306);
        });
        Sentences.sentence("Books and frames", "(N * N - (N - j) * (N - j)) / (N * N) for SLOW_OUT", () -> {
            dueBetween(0, 999, Thumbreel.SLOW_OUT, 749);
            dueBetween(0, 999, Thumbreel.SLOW_OUT, 555, 888);
            dueBetween(0, 999, Thumbreel.SLOW_OUT, 305, 555, 749, 888, 971);
            dueBetween(999, 0, Thumbreel.SLOW_OUT, 250);
            dueBetween(999, 0, Thumbreel.SLOW_OUT, 694, 444, 250, 111, 28);
        });
        Sentences.sentence("Books and frames", "for BOTH 2 * j * j / (N * N) if 2 * j is at most N, otherwise", () -> {
            dueBetween(0, 999, Thumbreel.BOTH, 499);
            dueBetween(0, 999, Thumbreel.BOTH, 222, 777);
            dueBetween(0, 999, Thumbreel.BOTH, 124, 499, 874);
            dueBetween(0, 999, Thumbreel.BOTH, 79, 319, 679, 919);
            dueBetween(0, 999, Thumbreel.BOTH, 55, 222, 499, 777, 943);
            dueBetween(999, 0, Thumbreel.BOTH, 500);
            dueBetween(999, 0, Thumbreel.BOTH, 777, 222);
            dueBetween(999, 0, Thumbreel.BOTH, 875, 500, 125);
            dueBetween(999, 0, Thumbreel.BOTH, 920, 680, 320, 80);
            dueBetween(999, 0, Thumbreel.BOTH, 944, 777, 500, 222, 56);
        });
    }

    private static void promise1() {
        Sentences.sentence("Promise 1", "Begins without books", () -> {
            Thumbreel x = new Thumbreel();
            Sentences.refused(Sentences.INDEX, "draw", () -> x.draw(0, 0, 0, 0, 0));
            Sentences.refused(Sentences.INDEX, "erase", () -> x.erase(0, 0));
            Sentences.refused(Sentences.INDEX, "move", () -> x.move(0, 0, 0));
            Sentences.refused(Sentences.INDEX, "frames", () -> x.frames(0));
            Sentences.refused(Sentences.INDEX, "frameAt", () -> x.frameAt(0, 0));
            Sentences.refused(Sentences.INDEX, "order", () -> x.order(0, 1));
            Sentences.due("the first book", x.addBook(), 0);
        });
        Sentences.sentence("Promise 1", "orders and sheets", () -> {
            Thumbreel x = Sentences.withBook(1);
            Sentences.refused(Sentences.INDEX, "lacking", () -> x.lacking(0));
            Sentences.refused(Sentences.INDEX, "waits", () -> x.waits(0));
            Sentences.refused(Sentences.INDEX, "bind", () -> x.bind(0, 0));
            Sentences.refused(Sentences.INDEX, "isBound", () -> x.isBound(0, 0) ? 1 : 0);
            Sentences.refused(Sentences.INDEX, "trim", () -> x.trim(0, 0, 0));
            Sentences.refused(Sentences.INDEX, "leaf", () -> x.leaf(0, 0, 0));
            Sentences.refused(Sentences.INDEX, "leafByPiles", () -> x.leafByPiles(0, 0, 0));
            Sentences.refused(Sentences.ELEMENT, "onSheet", () -> x.onSheet(0, 0));
            Sentences.refused(Sentences.ELEMENT, "cut", () -> x.cut(0));
            Sentences.due("waiting()", x.waiting(), 0);
            Sentences.due("discard()", x.discard(), 0);
            Sentences.due("print(10)", x.print(10), 0);
            Sentences.due("spoiled()", x.spoiled(), 0);
            Sentences.due("the first order", x.order(0, 1), 0);
            x.print(1);
            Sentences.due("is on the first sheet", x.onSheet(0, x.cellOf(0)), 0);
        });
        Sentences.sentence("Promise 1", "both knives are sharp", () -> {
            Thumbreel x = new Thumbreel();
            Sentences.due("knife 0", x.sharpen(0), 0);
            Sentences.due("knife 1", x.sharpen(1), 0);
        });
        Sentences.sentence("Sheets", "at first RIGHT, RIGHT, UP", () -> {
            Thumbreel x = new Thumbreel();
            Sentences.dueRow("by unfolding", Sentences.cellRow(x), 4, 7, 6, 5, 1, 2, 3, 0);
            Sentences.dueRow("by folding", Sentences.placeRow(x), 7, 4, 5, 6, 0, 3, 2, 1);
        });
        Sentences.sentence("Binding", "the tolerance (2 at first)", () ->
            Sentences.due("setTolerance(2)", new Thumbreel().setTolerance(2), 2));
    }

    private static void promise2() {
        Sentences.sentence("Promise 2", "Adds a book without drawings.", () -> {
            Thumbreel x = Sentences.withBook(1, 2);
            int book = x.addBook();
            Sentences.due("frames", x.frames(book), 0);
            Sentences.refused(Sentences.INDEX, "drawing 0", () -> x.erase(book, 0));
            Sentences.refused(Sentences.INDEX, "ahead of drawing 1", () -> x.draw(book, 1, 0, 0, 0));
            Sentences.dueRow("the other book", Sentences.frameRow(x, 0), 1, 2);
        });
        Sentences.sentence("Promise 2", "if there are 4", () -> {
            Thumbreel x = new Thumbreel();
            for (int i = 0; i < 3; i++) {
                x.addBook();
            }
            Sentences.due("the fourth", x.addBook(), 3);
            Sentences.refused(Sentences.STATE, "the fifth", () -> x.addBook());
            Sentences.refused(Sentences.STATE, "once more", () -> x.addBook());
            Sentences.due("the fourth is there", x.draw(3, 0, 5, 0, 0), 0);
            Sentences.due("as it was drawn", x.frameAt(3, 0), 5);
        });
    }

    private static void promise3() {
        Sentences.sentence("Promise 3", "`at`: ahead of which drawing; as many as there are for the end", () -> {
            Thumbreel x = Sentences.withBook(20, 40);
            x.draw(0, 0, 10, 0, 0);
            Sentences.dueRow("ahead of the first", Sentences.frameRow(x, 0), 10, 20, 40);
            x.draw(0, 2, 30, 0, 0);
            Sentences.dueRow("ahead of the last", Sentences.frameRow(x, 0), 10, 20, 30, 40);
            x.draw(0, 4, 50, 0, 0);
            Sentences.dueRow("at the end", Sentences.frameRow(x, 0), 10, 20, 30, 40, 50);
        });
        Sentences.sentence("Promise 3", "`position`: 0 to 999", () -> {
            Thumbreel x = Sentences.withBook();
            Sentences.due("0", x.draw(0, 0, 0, 0, 0), 0);
            Sentences.due("999", x.draw(0, 1, 999, 0, 0), 0);
            Sentences.dueRow("as drawn", Sentences.frameRow(x, 0), 0, 999);
        });
        Sentences.sentence("Promise 3", "`betweens`: 0 to 5", () -> {
            Thumbreel x = Sentences.withBook(0);
            Sentences.due("0", x.draw(0, 0, 1, 0, 0), 0);
            Sentences.due("5", x.draw(0, 0, 2, 5, 0), 0);
            Sentences.due("frames", x.frames(0), 8);
        });
        Sentences.sentence("Promise 3", "`curve`: EVEN, SLOW_IN, SLOW_OUT or BOTH", () -> {
            dueBetween(0, 900, Thumbreel.EVEN, 300, 600);
            dueBetween(0, 900, Thumbreel.SLOW_IN, 100, 400);
            dueBetween(0, 900, Thumbreel.SLOW_OUT, 500, 800);
            dueBetween(0, 900, Thumbreel.BOTH, 200, 700);
        });
        Sentences.sentence("Promise 3", "Returns how many leaves are spoiled by that.", () -> {
            Thumbreel x = Sentences.withOrder(3, 1, 2, 3);
            Sentences.due("none is printed", x.draw(0, 0, 0, 0, 0), 0);
            x.print(10);
            Sentences.due("at the end none", x.draw(0, 4, 4, 0, 0), 0);
            Sentences.due("ahead of the last, three copies", x.draw(0, 3, 9, 0, 0), 3);
            Sentences.due("ahead of all: three frames of three copies", x.draw(0, 0, 8, 0, 0), 9);
            Sentences.due("none is left", x.draw(0, 0, 7, 0, 0), 0);
            Sentences.due("spoiled()", x.spoiled(), 12);
            Thumbreel y = Sentences.withOrder(1, 5, 5, 5);
            y.print(1);
            Sentences.due("a frame more at the same position", y.draw(0, 0, 5, 0, 0), 0);
        });
        refusedDrawings();
    }

    private static void refusedDrawings() {
        Sentences.sentence("Promise 3", "if there is no such book, or at is not 0 to the number of its drawings", () -> {
            Thumbreel x = Sentences.withBook(1, 2);
            Sentences.refused(Sentences.INDEX, "book 1", () -> x.draw(1, 0, 0, 0, 0));
            Sentences.refused(Sentences.INDEX, "book -1", () -> x.draw(-1, 0, 0, 0, 0));
            Sentences.refused(Sentences.INDEX, "at 3", () -> x.draw(0, 3, 0, 0, 0));
            Sentences.refused(Sentences.INDEX, "at -1", () -> x.draw(0, -1, 0, 0, 0));
            for (int far : Sentences.FAR) {
                Sentences.refused(Sentences.INDEX, "book " + far, () -> x.draw(far, 0, 0, 0, 0));
                Sentences.refused(Sentences.INDEX, "at " + far, () -> x.draw(0, far, 0, 0, 0));
            }
            Sentences.due("at 2", x.draw(0, 2, 3, 0, 0), 0);
            Sentences.dueRow("only that", Sentences.frameRow(x, 0), 1, 2, 3);
        });
        Sentences.sentence("Promise 3", "if position, betweens or curve is out of range", () -> {
            Thumbreel x = Sentences.withBook(1);
            int[][] refused = {{-1, 0, 0}, {1000, 0, 0}, {0, -1, 0}, {0, 6, 0}, {0, 0, -1}, {0, 0, 4}, {-1, 6, 4}};
            for (int[] a : refused) {
                String what = a[0] + ", " + a[1] + ", " + a[2];
                Sentences.refused(Sentences.ARGUMENT, what, () -> x.draw(0, 0, a[0], a[1], a[2]));
            }
            for (int far : Sentences.FAR) {
                Sentences.refused(Sentences.ARGUMENT, "position " + far, () -> x.draw(0, 0, far, 0, 0));
                Sentences.refused(Sentences.ARGUMENT, "betweens " + far, () -> x.draw(0, 0, 0, far, 0));
                Sentences.refused(Sentences.ARGUMENT, "curve " + far, () -> x.draw(0, 0, 0, 0, far));
            }
            Sentences.dueRow("nothing was drawn", Sentences.frameRow(x, 0), 1);
        });
        Sentences.sentence("Promise 3", "if it has 8 drawings", () -> {
            Thumbreel x = Sentences.withBook(1, 2, 3, 4, 5, 6, 7, 8);
            for (int at = 0; at <= 8; at++) {
                int place = at;
                Sentences.refused(Sentences.STATE, "at " + at, () -> x.draw(0, place, 9, 0, 0));
            }
            Sentences.refused(Sentences.INDEX, "at 9", () -> x.draw(0, 9, 9, 0, 0));
            Sentences.dueRow("the row", Sentences.frameRow(x, 0), 1, 2, 3, 4, 5, 6, 7, 8);
            x.addBook();
            Sentences.due("the other book has none", x.draw(1, 0, 9, 0, 0), 0);
        });
    }

    private static void promise4() {
        Sentences.sentence("Promise 4", "Takes a drawing out.", () -> {
            Thumbreel x = new Thumbreel();
            x.addBook();
            x.draw(0, 0, 0, 1, Thumbreel.EVEN);
            x.draw(0, 1, 40, 1, Thumbreel.SLOW_IN);
            x.draw(0, 2, 80, 1, Thumbreel.SLOW_OUT);
            x.erase(0, 1);
            Sentences.dueRow("the midmost", Sentences.frameRow(x, 0), 0, 40, 80);
            x.erase(0, 0);
            Sentences.dueRow("the first", Sentences.frameRow(x, 0), 80);
            x.draw(0, 1, 0, 0, 0);
            Sentences.dueRow("the other one keeps its curve", Sentences.frameRow(x, 0), 80, 20, 0);
            x.erase(0, 1);
            x.erase(0, 0);
            Sentences.due("the last one of all", x.frames(0), 0);
        });
        Sentences.sentence("Promise 4", "Returns how many leaves are spoiled by that.", () -> {
            Thumbreel x = Sentences.withOrder(2, 1, 2, 3, 4);
            Sentences.due("none is printed", x.erase(0, 3), 0);
            x.print(10);
            Sentences.due("the last of two copies", x.erase(0, 2), 2);
            Sentences.due("the first of two", x.erase(0, 0), 4);
            Sentences.due("none is left", x.erase(0, 0), 0);
            Sentences.due("spoiled()", x.spoiled(), 6);
            Thumbreel y = Sentences.withOrder(1, 0, 0, 0);
            y.print(1);
            Sentences.due("the others are where they were, at position 0", y.erase(0, 0), 1);
        });
        Sentences.sentence("Promise 4", "as told, of the book or the drawing", () -> {
            Thumbreel x = Sentences.withBook(1, 2);
            x.addBook();
            Sentences.refused(Sentences.INDEX, "drawing 2", () -> x.erase(0, 2));
            Sentences.refused(Sentences.INDEX, "drawing -1", () -> x.erase(0, -1));
            Sentences.refused(Sentences.INDEX, "of a book without drawings", () -> x.erase(1, 0));
            Sentences.refused(Sentences.INDEX, "book 2", () -> x.erase(2, 0));
            Sentences.refused(Sentences.INDEX, "book -1", () -> x.erase(-1, 0));
            for (int far : Sentences.FAR) {
                Sentences.refused(Sentences.INDEX, "book " + far, () -> x.erase(far, 0));
                Sentences.refused(Sentences.INDEX, "drawing " + far, () -> x.erase(0, far));
            }
            Sentences.dueRow("none was taken", Sentences.frameRow(x, 0), 1, 2);
            Thumbreel y = Sentences.withBook(1, 2, 3, 4, 5, 6, 7, 8);
            Sentences.refused(Sentences.INDEX, "drawing 8", () -> y.erase(0, 8));
            Sentences.due("drawing 7", y.erase(0, 7), 0);
            Sentences.refused(Sentences.INDEX, "drawing 7 again", () -> y.erase(0, 7));
        });
    }

    private static void promise5() {
        Sentences.sentence("Promise 5", "`position`: 0 to 999", () -> {
            Thumbreel x = Sentences.withBook(5, 5);
            Sentences.due("to 0", x.move(0, 0, 0), 0);
            Sentences.due("to 999", x.move(0, 1, 999), 0);
            Sentences.dueRow("both", Sentences.frameRow(x, 0), 0, 999);
        });
        Sentences.sentence("Promise 5", "Returns how many leaves are spoiled by that.", () -> {
            Thumbreel x = Sentences.withOrder(3, 7, 8);
            Sentences.due("none is printed", x.move(0, 0, 6), 0);
            x.print(10);
            Sentences.due("to where it is", x.move(0, 0, 6), 0);
            Sentences.due("by one", x.move(0, 0, 7), 3);
            Sentences.due("and by one more", x.move(0, 0, 8), 0);
            Sentences.due("the last", x.move(0, 1, 7), 3);
            Sentences.due("spoiled()", x.spoiled(), 6);
            Thumbreel y = new Thumbreel();
            y.addBook();
            y.draw(0, 0, 0, 5, 0);
            y.draw(0, 1, 600, 5, 0);
            y.draw(0, 2, 0, 0, 0);
            y.order(0, 1);
            y.print(2);
            Sentences.due("the first and its in-betweens", y.move(0, 0, 6), 6);
            y.print(1);
            Sentences.due("the last and those ahead of it", y.move(0, 2, 6), 6);
            y.print(1);
            Sentences.due("the midmost and those on both sides", y.move(0, 1, 606), 11);
        });
        Sentences.sentence("Promise 5", "as told, of the book or the drawing", () -> {
            Thumbreel x = Sentences.withBook(1, 2);
            x.addBook();
            Sentences.refused(Sentences.INDEX, "drawing 2", () -> x.move(0, 2, 5));
            Sentences.refused(Sentences.INDEX, "drawing -1", () -> x.move(0, -1, 5));
            Sentences.refused(Sentences.INDEX, "of a book without drawings", () -> x.move(1, 0, 5));
            Sentences.refused(Sentences.INDEX, "book 2", () -> x.move(2, 0, 5));
            Sentences.refused(Sentences.INDEX, "book -1", () -> x.move(-1, 0, 5));
            for (int far : Sentences.FAR) {
                Sentences.refused(Sentences.INDEX, "book " + far, () -> x.move(far, 0, 5));
                Sentences.refused(Sentences.INDEX, "drawing " + far, () -> x.move(0, far, 5));
            }
            Sentences.dueRow("none was moved", Sentences.frameRow(x, 0), 1, 2);
        });
        Sentences.sentence("Promise 5", "if position is out of range", () -> {
            Thumbreel x = Sentences.withBook(1, 2);
            Sentences.refused(Sentences.ARGUMENT, "-1", () -> x.move(0, 1, -1));
            Sentences.refused(Sentences.ARGUMENT, "1000", () -> x.move(0, 1, 1000));
            for (int far : Sentences.FAR) {
                Sentences.refused(Sentences.ARGUMENT, "to " + far, () -> x.move(0, 1, far));
            }
            Sentences.dueRow("none was moved", Sentences.frameRow(x, 0), 1, 2);
        });
    }

    private static void promise6() {
        Sentences.sentence("Promise 6", "Returns how many frames a book has.", () -> {
            Thumbreel x = new Thumbreel();
            x.addBook();
            Sentences.due("none", x.frames(0), 0);
            for (int i = 0; i < 8; i++) {
                x.draw(0, i, 0, 5, 0);
                Sentences.due("drawings: " + (i + 1), x.frames(0), 6 * i + 1);
            }
            Sentences.due("the last of the most", x.frameAt(0, 42), 0);
            for (int i = 7; i > 0; i--) {
                x.erase(0, 0);
                Sentences.due("drawings left: " + i, x.frames(0), 6 * (i - 1) + 1);
            }
            x.erase(0, 0);
            Sentences.due("none again", x.frames(0), 0);
        });
        Sentences.sentence("Promise 6", "Throws `IndexOutOfBoundsException` as told", () -> {
            Thumbreel x = Sentences.withBook(1);
            Sentences.refused(Sentences.INDEX, "book 1", () -> x.frames(1));
            Sentences.refused(Sentences.INDEX, "book -1", () -> x.frames(-1));
            for (int far : Sentences.FAR) {
                Sentences.refused(Sentences.INDEX, "book " + far, () -> x.frames(far));
            }
        });
    }

    private static void promise7() {
        Sentences.sentence("Promise 7", "Returns the position of a frame.", () -> {
            Thumbreel x = new Thumbreel();
            x.addBook();
            Sentences.fillBook(x, 0);
            for (int drawing = 0; drawing < 8; drawing++) {
                Sentences.due("drawing " + drawing, x.frameAt(0, 6 * drawing), 100 * drawing);
            }
            Sentences.due("the first in-between", x.frameAt(0, 1), 16);
            Sentences.due("the last one", x.frameAt(0, 41), 683);
        });
        Sentences.sentence("Promise 7", "as told, of the book or the frame", () -> {
            Thumbreel x = Sentences.withBook(1, 2);
            x.addBook();
            Sentences.refused(Sentences.INDEX, "frame 2", () -> x.frameAt(0, 2));
            Sentences.refused(Sentences.INDEX, "frame -1", () -> x.frameAt(0, -1));
            Sentences.refused(Sentences.INDEX, "of a book without frames", () -> x.frameAt(1, 0));
            Sentences.refused(Sentences.INDEX, "book 2", () -> x.frameAt(2, 0));
            Sentences.refused(Sentences.INDEX, "book -1", () -> x.frameAt(-1, 0));
            for (int far : Sentences.FAR) {
                Sentences.refused(Sentences.INDEX, "book " + far, () -> x.frameAt(far, 0));
                Sentences.refused(Sentences.INDEX, "frame " + far, () -> x.frameAt(0, far));
            }
            Sentences.fillBook(x, 1);
            Sentences.refused(Sentences.INDEX, "frame 43 of the longest", () -> x.frameAt(1, 43));
            x.erase(1, 7);
            Sentences.refused(Sentences.INDEX, "frame 37 of a shorter one", () -> x.frameAt(1, 37));
        });
    }

    public static void main(String[] args) {
        terms();
        inBetweens();
        promise1();
        promise2();
        promise3();
        promise4();
        promise5();
        promise6();
        promise7();
        Sentences.finish("Books and frames", "Promise 1", "Promise 2", "Promise 3", "Promise 4", "Promise 5",
            "Promise 6", "Promise 7");
    }
}

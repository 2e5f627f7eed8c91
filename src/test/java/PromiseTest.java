/** One method for each promise of the document: ordinary inputs, edges and wrong inputs. */
public final class PromiseTest {
    private static final String INDEX = "IndexOutOfBoundsException";
    private static final String ARGUMENT = "IllegalArgumentException";
    private static final String STATE = "IllegalStateException";
    private static final String ELEMENT = "NoSuchElementException";
    private static final int[] FAR = {Integer.MIN_VALUE, Integer.MIN_VALUE + 1, -1000, 1000,
        Integer.MAX_VALUE - 1, Integer.MAX_VALUE};

    private static int wrong = 0;
    private static int checks = 0;
    private static String promise = "";

    private interface Call {
        long answer();
    }

    private static void due(String what, long got, long want) {
        checks++;
        if (got != want) {
            wrong++;
            System.out.println(promise + ": " + what + " answered " + got + ", due is " + want);
        }
    }

    private static void due(String what, boolean got, boolean want) {
        due(what, got ? 1 : 0, want ? 1 : 0);
    }

    private static void dueThrow(String what, String want, Call call) {
        checks++;
        String got;
        try {
            got = "the answer " + call.answer();
        } catch (RuntimeException e) {
            got = e.getClass().getSimpleName() + thrower(e);
        }
        if (!got.equals(want)) {
            wrong++;
            System.out.println(promise + ": " + what + " gave " + got + ", due is " + want);
        }
    }

    /** Empty if the class itself threw it by a throw statement, not the machine or the library. */
    private static String thrower(RuntimeException e) {
        StackTraceElement[] trace = e.getStackTrace();
        boolean isOwn = trace.length > 0 && trace[0].getClassName().startsWith("Thumbreel");
        return isOwn && e.getCause() == null ? "" : " of the machine or the library";
    }

    private static void dueRow(String what, int[] got, int... want) {
        due(what + " length", got.length, want.length);
        for (int i = 0; i < want.length && i < got.length; i++) {
            due(what + " [" + i + "]", got[i], want[i]);
        }
    }

    /** A new object with one book of some drawings without in-betweens at 10, 20, 30 and so on. */
    private static Thumbreel withBook(int drawings) {
        Thumbreel x = new Thumbreel();
        x.addBook();
        addDrawings(x, 0, drawings);
        return x;
    }

    private static void addDrawings(Thumbreel x, int book, int drawings) {
        for (int i = 0; i < drawings; i++) {
            x.draw(book, i, 10 * (i + 1), 0, Thumbreel.EVEN);
        }
    }

    private static int[] frameRow(Thumbreel x, int book) {
        int[] row = new int[x.frames(book)];
        for (int i = 0; i < row.length; i++) {
            row[i] = x.frameAt(book, i);
        }
        return row;
    }

    private static int[] cellRow(Thumbreel x) {
        int[] row = new int[8];
        for (int i = 0; i < 8; i++) {
            row[i] = x.cellOf(i);
        }
        return row;
    }

    private static int[] placeRow(Thumbreel x) {
        int[] row = new int[8];
        for (int i = 0; i < 8; i++) {
            row[i] = x.placeOf(i);
        }
        return row;
    }

    private static int[] sheetRow(Thumbreel x, int sheet) {
        int[] row = new int[8];
        for (int i = 0; i < 8; i++) {
            row[i] = x.onSheet(sheet, i);
        }
        return row;
    }

    private static void cutAll(Thumbreel x, int knife) {
        for (int i = x.waiting(); i > 0; i--) {
            x.cut(knife);
        }
    }

    /** Dulls a knife by sheets of a book of its own, spoiled again at once. */
    private static Thumbreel withDullKnife(int cuts) {
        Thumbreel x = new Thumbreel();
        x.addBook();
        x.draw(0, 0, 1, 0, Thumbreel.EVEN);
        x.order(0, 1);
        for (int i = 0; i < cuts; i++) {
            x.print(1);
            x.cut(0);
            x.move(0, 0, 2 + i);
        }
        x.erase(0, 0);
        return x;
    }

    private static void promise1() {
        promise = "promise 1";
        Thumbreel x = new Thumbreel();
        dueThrow("no book", INDEX, () -> x.frames(0));
        dueThrow("no order", INDEX, () -> x.lacking(0));
        dueThrow("no sheet", ELEMENT, () -> x.onSheet(0, 0));
        due("waiting()", x.waiting(), 0);
        due("spoiled()", x.spoiled(), 0);
        due("discard()", x.discard(), 0);
        due("print(10)", x.print(10), 0);
        due("first dullness of 0", x.sharpen(0), 0);
        due("first dullness of 1", x.sharpen(1), 0);
        due("first tolerance", x.setTolerance(7), 2);
        dueRow("first folds", cellRow(x), 4, 7, 6, 5, 1, 2, 3, 0);
        Thumbreel y = withBook(1);
        dueThrow("objects share nothing", INDEX, () -> x.frames(0));
        due("another object's tolerance", y.setTolerance(1), 2);
        due("NONE", Thumbreel.NONE, -1);
        dueRow("curves", new int[] {Thumbreel.EVEN, Thumbreel.SLOW_IN, Thumbreel.SLOW_OUT, Thumbreel.BOTH}, 0, 1, 2, 3);
        dueRow("folds", new int[] {Thumbreel.LEFT, Thumbreel.RIGHT, Thumbreel.UP, Thumbreel.DOWN}, 0, 1, 2, 3);
    }

    private static void promise2() {
        promise = "promise 2";
        Thumbreel x = new Thumbreel();
        for (int i = 0; i < 4; i++) {
            due("addBook()", x.addBook(), i);
            due("its frames", x.frames(i), 0);
        }
        dueThrow("a fifth book", STATE, () -> x.addBook());
        dueThrow("a fifth book again", STATE, () -> x.addBook());
        dueThrow("the fifth book's frames", INDEX, () -> x.frames(4));
    }

    private static void promise3() {
        promise = "promise 3";
        Thumbreel x = new Thumbreel();
        dueThrow("no book", INDEX, () -> x.draw(0, 0, -1, -1, -1));
        x.addBook();
        dueThrow("at 1 of 0", INDEX, () -> x.draw(0, 1, 0, 0, 0));
        dueThrow("at -1", INDEX, () -> x.draw(0, -1, -1, -1, -1));
        dueThrow("position -1", ARGUMENT, () -> x.draw(0, 0, -1, 0, 0));
        dueThrow("position 1000", ARGUMENT, () -> x.draw(0, 0, 1000, 0, 0));
        dueThrow("betweens -1", ARGUMENT, () -> x.draw(0, 0, 0, -1, 0));
        dueThrow("betweens 6", ARGUMENT, () -> x.draw(0, 0, 0, 6, 0));
        dueThrow("curve -1", ARGUMENT, () -> x.draw(0, 0, 0, 0, -1));
        dueThrow("curve 4", ARGUMENT, () -> x.draw(0, 0, 0, 0, 4));
        due("nothing changed", x.frames(0), 0);
        due("first", x.draw(0, 0, 0, 0, 0), 0);
        due("at the end", x.draw(0, 1, 999, 5, 3), 0);
        due("ahead of both", x.draw(0, 0, 5, 0, 1), 0);
        due("in the midst", x.draw(0, 1, 7, 0, 2), 0);
        dueRow("the row", frameRow(x, 0), 5, 7, 0, 999);
        for (int i = 4; i < 8; i++) {
            due("draw " + i, x.draw(0, i, 1, 0, 0), 0);
        }
        dueThrow("a ninth drawing", STATE, () -> x.draw(0, 8, 0, 0, 0));
        dueThrow("a ninth drawing, bad position", ARGUMENT, () -> x.draw(0, 8, 1000, 0, 0));
        dueThrow("a ninth drawing, bad place", INDEX, () -> x.draw(0, 9, 1000, 0, 0));
        for (int far : FAR) {
            dueThrow("book " + far, INDEX, () -> x.draw(far, 0, 0, 0, 0));
            dueThrow("at " + far, INDEX, () -> x.draw(0, far, 0, 0, 0));
            dueThrow("position " + far, ARGUMENT, () -> x.draw(0, 0, far, 0, 0));
            dueThrow("betweens " + far, ARGUMENT, () -> x.draw(0, 0, 0, far, 0));
            dueThrow("curve " + far, ARGUMENT, () -> x.draw(0, 0, 0, 0, far));
        }

        Thumbreel z = new Thumbreel();
        z.addBook();
        z.draw(0, 0, 400, 1, Thumbreel.SLOW_OUT);
        z.draw(0, 1, 0, 0, Thumbreel.EVEN);
        z.draw(0, 0, 0, 1, Thumbreel.SLOW_IN);
        dueRow("in-betweens and curve go with the drawing", frameRow(z, 0), 0, 100, 400, 100, 0);
        z.erase(0, 0);
        dueRow("the other way as well", frameRow(z, 0), 400, 100, 0);

        Thumbreel y = withBook(3);
        y.order(0, 2);
        y.print(10);
        due("added behind all", y.draw(0, 3, 30, 0, 0), 0);
        due("the same position ahead of the last", y.draw(0, 3, 30, 0, 0), 0);
        due("ahead of 10, 20, 30", y.draw(0, 0, 1, 0, 0), 6);
        due("spoiled()", y.spoiled(), 6);
    }

    private static void promise4() {
        promise = "promise 4";
        Thumbreel x = withBook(3);
        dueThrow("no book", INDEX, () -> x.erase(1, 0));
        dueThrow("no drawing", INDEX, () -> x.erase(0, 3));
        dueThrow("drawing -1", INDEX, () -> x.erase(0, -1));
        for (int far : FAR) {
            dueThrow("book " + far, INDEX, () -> x.erase(far, 0));
            dueThrow("drawing " + far, INDEX, () -> x.erase(0, far));
        }
        x.order(0, 3);
        x.print(10);
        due("the second of three, three copies", x.erase(0, 1), 6);
        dueRow("what is left", frameRow(x, 0), 10, 30);
        due("lacking", x.lacking(0), 3);
        due("the last", x.erase(0, 1), 0);
        due("the only one", x.erase(0, 0), 3);
        due("no frames", x.frames(0), 0);
        dueThrow("of an empty book", INDEX, () -> x.erase(0, 0));
        due("spoiled()", x.spoiled(), 9);

        Thumbreel y = new Thumbreel();
        y.addBook();
        y.draw(0, 0, 0, 2, Thumbreel.EVEN);
        y.draw(0, 1, 30, 5, Thumbreel.EVEN);
        y.draw(0, 2, 0, 0, Thumbreel.EVEN);
        due("erase the last", y.erase(0, 2), 0);
        dueRow("the new last one has no in-betweens", frameRow(y, 0), 0, 10, 20, 30);
        y.erase(0, 0);
        dueRow("one left", frameRow(y, 0), 30);
        y.draw(0, 1, 90, 0, 0);
        dueRow("the kept in-betweens", frameRow(y, 0), 30, 40, 50, 60, 70, 80, 90);
    }

    private static void promise5() {
        promise = "promise 5";
        Thumbreel x = withBook(3);
        dueThrow("no book", INDEX, () -> x.move(1, 0, -1));
        dueThrow("no drawing", INDEX, () -> x.move(0, 3, -1));
        dueThrow("drawing -1", INDEX, () -> x.move(0, -1, 1000));
        dueThrow("position -1", ARGUMENT, () -> x.move(0, 0, -1));
        dueThrow("position 1000", ARGUMENT, () -> x.move(0, 0, 1000));
        for (int far : FAR) {
            dueThrow("book " + far, INDEX, () -> x.move(far, 0, 0));
            dueThrow("drawing " + far, INDEX, () -> x.move(0, far, 0));
            dueThrow("position " + far, ARGUMENT, () -> x.move(0, 0, far));
        }
        dueRow("nothing changed", frameRow(x, 0), 10, 20, 30);
        due("not printed", x.move(0, 1, 999), 0);
        due("to 0", x.move(0, 1, 0), 0);
        dueRow("moved", frameRow(x, 0), 10, 0, 30);
        x.order(0, 3);
        x.order(0, 1);
        x.print(10);
        due("to where it is", x.move(0, 1, 0), 0);
        due("both orders", x.move(0, 1, 5), 4);
        due("back: spoiled leaves stay so", x.move(0, 1, 0), 0);
        due("lacking", x.lacking(0), 3);
        due("spoiled()", x.spoiled(), 4);

        Thumbreel y = new Thumbreel();
        y.addBook();
        y.draw(0, 0, 0, 2, Thumbreel.EVEN);
        y.draw(0, 1, 30, 2, Thumbreel.EVEN);
        y.draw(0, 2, 60, 0, Thumbreel.EVEN);
        y.order(0, 1);
        y.print(1);
        due("with the in-betweens on both sides", y.move(0, 1, 33), 5);
        dueRow("they flow anew", frameRow(y, 0), 0, 11, 22, 33, 42, 51, 60);
        y.print(1);
        due("by one", y.move(0, 1, 32), 5);
        dueRow("rounded", frameRow(y, 0), 0, 10, 21, 32, 41, 50, 60);
        y.print(1);
        due("by one, where all in-betweens but one stay by rounding", y.move(0, 0, 1), 2);
        dueRow("rounded toward the first", frameRow(y, 0), 1, 11, 21, 32, 41, 50, 60);
    }

    private static void promise6() {
        promise = "promise 6";
        Thumbreel x = new Thumbreel();
        x.addBook();
        due("no drawings", x.frames(0), 0);
        x.draw(0, 0, 1, 5, 0);
        due("one drawing", x.frames(0), 1);
        x.draw(0, 1, 1, 3, 0);
        due("two drawings", x.frames(0), 7);
        for (int i = 2; i < 8; i++) {
            x.draw(0, 0, 1, 4, 0);
        }
        due("eight drawings", x.frames(0), 8 + 6 * 4 + 5);
        for (int i = 0; i < 6; i++) {
            x.erase(0, 0);
            x.draw(0, 5, 1, 5, 0);
        }
        due("the longest book", x.frames(0), 43);
        dueThrow("frame 43", INDEX, () -> x.frameAt(0, 43));
        dueThrow("book 1", INDEX, () -> x.frames(1));
        dueThrow("book -1", INDEX, () -> x.frames(-1));
        for (int far : FAR) {
            dueThrow("book " + far, INDEX, () -> x.frames(far));
        }
    }

    private static int[] easedRow(int from, int to, int betweens, int curve) {
        Thumbreel x = new Thumbreel();
        x.addBook();
        x.draw(0, 0, from, betweens, curve);
        x.draw(0, 1, to, 5, curve);
        return frameRow(x, 0);
    }

    private static void promise7() {
        promise = "promise 7";
        dueRow("EVEN", easedRow(100, 200, 3, Thumbreel.EVEN), 100, 125, 150, 175, 200);
        dueRow("EVEN down", easedRow(200, 100, 2, Thumbreel.EVEN), 200, 167, 134, 100);
        dueRow("SLOW_IN", easedRow(0, 600, 5, Thumbreel.SLOW_IN), 0, 16, 66, 150, 266, 416, 600);
        dueRow("SLOW_IN down", easedRow(600, 0, 5, Thumbreel.SLOW_IN), 600, 584, 534, 450, 334, 184, 0);
        dueRow("SLOW_OUT", easedRow(0, 600, 5, Thumbreel.SLOW_OUT), 0, 183, 333, 450, 533, 583, 600);
        dueRow("SLOW_OUT down", easedRow(999, 0, 3, Thumbreel.SLOW_OUT), 999, 562, 250, 63, 0);
        dueRow("BOTH", easedRow(0, 999, 5, Thumbreel.BOTH), 0, 55, 222, 499, 777, 943, 999);
        dueRow("BOTH down", easedRow(999, 0, 5, Thumbreel.BOTH), 999, 944, 777, 500, 222, 56, 0);
        dueRow("BOTH, an odd number of steps", easedRow(0, 900, 2, Thumbreel.BOTH), 0, 200, 700, 900);
        dueRow("BOTH, one in-between", easedRow(0, 999, 1, Thumbreel.BOTH), 0, 499, 999);
        dueRow("BOTH, five steps", easedRow(0, 500, 4, Thumbreel.BOTH), 0, 40, 160, 340, 460, 500);
        dueRow("no in-betweens", easedRow(3, 4, 0, Thumbreel.SLOW_OUT), 3, 4);
        Thumbreel x = withBook(2);
        dueThrow("no frame", INDEX, () -> x.frameAt(0, 2));
        dueThrow("frame -1", INDEX, () -> x.frameAt(0, -1));
        dueThrow("no book", INDEX, () -> x.frameAt(1, 0));
        for (int far : FAR) {
            dueThrow("book " + far, INDEX, () -> x.frameAt(far, 0));
            dueThrow("frame " + far, INDEX, () -> x.frameAt(0, far));
        }
    }

    private static void promise8() {
        promise = "promise 8";
        Thumbreel x = withBook(1);
        dueThrow("no book", INDEX, () -> x.order(1, 0));
        dueThrow("no copies", ARGUMENT, () -> x.order(0, 0));
        dueThrow("four copies", ARGUMENT, () -> x.order(0, 4));
        for (int far : FAR) {
            dueThrow("book " + far, INDEX, () -> x.order(far, 1));
            dueThrow("copies " + far, ARGUMENT, () -> x.order(0, far));
        }
        for (int i = 0; i < 5; i++) {
            due("order", x.order(0, i % 3 + 1), i);
            due("its leaves", x.lacking(i), i % 3 + 1);
        }
        dueThrow("a sixth order", STATE, () -> x.order(0, 1));
        dueThrow("a sixth order of four copies", ARGUMENT, () -> x.order(0, 4));
        dueThrow("a sixth order for no book", INDEX, () -> x.order(1, 4));
        dueThrow("there is no sixth", INDEX, () -> x.lacking(5));
    }

    private static void promise9() {
        promise = "promise 9";
        Thumbreel x = withBook(5);
        x.order(0, 3);
        due("all", x.lacking(0), 15);
        x.print(1);
        due("one sheet less", x.lacking(0), 7);
        x.print(1);
        due("none, though not cut", x.lacking(0), 0);
        x.draw(0, 5, 1, 0, 0);
        due("a new frame", x.lacking(0), 3);
        x.move(0, 0, 11);
        due("a changed frame too", x.lacking(0), 6);
        x.print(10);
        cutAll(x, 0);
        x.bind(0, 1);
        x.move(0, 0, 12);
        due("a bound copy needs none", x.lacking(0), 2);
        dueThrow("no order", INDEX, () -> x.lacking(1));
        dueThrow("order -1", INDEX, () -> x.lacking(-1));
        for (int far : FAR) {
            dueThrow("order " + far, INDEX, () -> x.lacking(far));
        }
    }

    private static void promise10() {
        promise = "promise 10";
        Thumbreel x = withBook(4);
        x.addBook();
        addDrawings(x, 1, 5);
        x.addBook();
        x.order(0, 2);
        x.order(1, 1);
        x.order(0, 2);
        x.order(2, 3);
        due("5 + 8 leaves", x.waits(0), 2);
        due("5 leaves, of the longest book", x.waits(1), 1);
        due("5 + 8 + 8 leaves", x.waits(2), 3);
        due("none", x.waits(3), 0);
        x.print(1);
        due("5 leaves of the first", x.waits(0), 1);
        due("now none", x.waits(1), 0);
        due("13 leaves", x.waits(2), 2);
        x.erase(1, 4);
        x.erase(1, 3);
        x.move(1, 0, 999);
        due("now a shorter book: 13 and 1", x.waits(1), 2);
        Thumbreel y = withBook(8);
        y.order(0, 1);
        due("8 leaves", y.waits(0), 1);
        y.order(0, 1);
        due("16 leaves", y.waits(1), 2);
        dueThrow("no order", INDEX, () -> x.waits(4));
        dueThrow("order -1", INDEX, () -> x.waits(-1));
        for (int far : FAR) {
            dueThrow("order " + far, INDEX, () -> x.waits(far));
        }
    }

    private static void promise11() {
        promise = "promise 11";
        Thumbreel x = withBook(8);
        x.order(0, 2);
        x.print(1);
        x.setFolds(Thumbreel.LEFT, Thumbreel.LEFT, Thumbreel.DOWN);
        x.print(1);
        dueRow("printed before", sheetRow(x, 0), 7, 4, 5, 6, 0, 3, 2, 1);
        dueRow("printed after", sheetRow(x, 1), 1001, 1002, 1003, 1000, 1006, 1005, 1004, 1007);
        int valid = 0;
        for (int first = -1; first <= 4; first++) {
            for (int second = -1; second <= 4; second++) {
                for (int third = -1; third <= 4; third++) {
                    valid += tryFolds(first, second, third);
                }
            }
        }
        due("valid folds", valid, 24);
        int[] before = cellRow(x);
        dueThrow("three sideways", ARGUMENT, () -> setFolds(x, 0, 1, 0));
        dueThrow("two upright", ARGUMENT, () -> setFolds(x, 2, 1, 3));
        for (int far : FAR) {
            dueThrow("first " + far, ARGUMENT, () -> setFolds(x, far, 1, 0));
            dueThrow("second " + far, ARGUMENT, () -> setFolds(x, 0, far, 1));
            dueThrow("third " + far, ARGUMENT, () -> setFolds(x, 0, 1, far));
        }
        dueRow("nothing changed", cellRow(x), before);
    }

    private static long setFolds(Thumbreel x, int first, int second, int third) {
        x.setFolds(first, second, third);
        return 0;
    }

    private static int tryFolds(int first, int second, int third) {
        int sideways = 0;
        int upright = 0;
        for (int fold : new int[] {first, second, third}) {
            sideways += fold == 0 || fold == 1 ? 1 : 0;
            upright += fold == 2 || fold == 3 ? 1 : 0;
        }
        Thumbreel x = new Thumbreel();
        boolean accepted;
        try {
            x.setFolds(first, second, third);
            accepted = true;
        } catch (IllegalArgumentException e) {
            accepted = false;
        }
        due("folds " + first + " " + second + " " + third, accepted, sideways == 2 && upright == 1);
        for (int place = 0; place < 8 && accepted; place++) {
            due("the way and back", x.placeOf(x.cellOf(place)), place);
        }
        return accepted ? 1 : 0;
    }

    private static void promise12() {
        promise = "promise 12";
        Thumbreel x = new Thumbreel();
        dueRow("RIGHT RIGHT UP", cellRow(x), 4, 7, 6, 5, 1, 2, 3, 0);
        x.setFolds(Thumbreel.UP, Thumbreel.LEFT, Thumbreel.RIGHT);
        dueRow("UP LEFT RIGHT", cellRow(x), 3, 7, 4, 0, 1, 5, 6, 2);
        x.setFolds(Thumbreel.LEFT, Thumbreel.DOWN, Thumbreel.RIGHT);
        dueRow("LEFT DOWN RIGHT", cellRow(x), 7, 4, 0, 3, 2, 1, 5, 6);
        x.setFolds(Thumbreel.RIGHT, Thumbreel.LEFT, Thumbreel.DOWN);
        dueRow("RIGHT LEFT DOWN", cellRow(x), 1, 2, 3, 0, 4, 7, 6, 5);
        dueThrow("place 8", INDEX, () -> x.cellOf(8));
        dueThrow("place -1", INDEX, () -> x.cellOf(-1));
        for (int far : FAR) {
            dueThrow("place " + far, INDEX, () -> x.cellOf(far));
        }
    }

    private static void promise13() {
        promise = "promise 13";
        Thumbreel x = new Thumbreel();
        dueRow("RIGHT RIGHT UP", placeRow(x), 7, 4, 5, 6, 0, 3, 2, 1);
        x.setFolds(Thumbreel.UP, Thumbreel.LEFT, Thumbreel.RIGHT);
        dueRow("UP LEFT RIGHT", placeRow(x), 3, 4, 7, 0, 2, 5, 6, 1);
        x.setFolds(Thumbreel.LEFT, Thumbreel.DOWN, Thumbreel.RIGHT);
        dueRow("LEFT DOWN RIGHT", placeRow(x), 2, 5, 4, 3, 1, 6, 7, 0);
        x.setFolds(Thumbreel.RIGHT, Thumbreel.LEFT, Thumbreel.DOWN);
        dueRow("RIGHT LEFT DOWN", placeRow(x), 3, 0, 1, 2, 4, 7, 6, 5);
        dueThrow("cell 8", INDEX, () -> x.placeOf(8));
        dueThrow("cell -1", INDEX, () -> x.placeOf(-1));
        for (int far : FAR) {
            dueThrow("cell " + far, INDEX, () -> x.placeOf(far));
        }
    }

    private static void promise14() {
        promise = "promise 14";
        Thumbreel x = withBook(3);
        x.addBook();
        addDrawings(x, 1, 4);
        x.order(0, 2);
        x.order(1, 1);
        x.order(1, 1);
        dueThrow("no sheets", ARGUMENT, () -> x.print(0));
        dueThrow("11 sheets", ARGUMENT, () -> x.print(11));
        for (int far : FAR) {
            dueThrow("sheets " + far, ARGUMENT, () -> x.print(far));
        }
        due("14 leaves", x.print(10), 2);
        dueRow("the longer book first", sheetRow(x, 0), 20003, 20000, 20001, 20002, 10000, 10003, 10002, 10001);
        dueRow("then the other by copies", sheetRow(x, 1), -1, 1001, 1002, -1, 0, 1000, 2, 1);
        due("nothing lacks", x.print(1), 0);
        x.move(1, 2, 999);
        due("one sheet of two leaves", x.print(1), 1);
        dueRow("what was spoiled", sheetRow(x, 2), -1, -1, -1, -1, 10002, -1, -1, 20002);

        x.erase(1, 3);
        x.erase(1, 2);
        x.move(0, 0, 998);
        x.move(1, 0, 998);
        due("now the first order's book is longer", x.print(1), 1);
        dueRow("it comes first", sheetRow(x, 3), -1, -1, -1, -1, 0, 20000, 10000, 1000);

        Thumbreel y = new Thumbreel();
        y.addBook();
        for (int i = 0; i < 7; i++) {
            y.draw(0, i, i, 5, 0);
        }
        y.draw(0, 7, 7, 0, 0);
        y.order(0, 3);
        due("129 leaves: 3 of 17 sheets", y.print(3), 3);
        due("10 more", y.print(10), 10);
        due("the last 4", y.print(10), 4);
        due("nothing lacks", y.lacking(0), 0);
    }

    private static void promise14Limit() {
        promise = "promise 14, the limit";
        Thumbreel x = withBook(8);
        x.order(0, 3);
        for (int i = 0; i < 16; i++) {
            for (int d = 0; d < 8; d++) {
                x.move(0, d, 500 + i);
            }
            due("three sheets", x.print(10), 3);
            cutAll(x, 1);
        }
        for (int d = 0; d < 8; d++) {
            x.move(0, d, 100);
        }
        dueThrow("48 and 3 sheets", STATE, () -> x.print(3));
        dueThrow("48 and 3 sheets of at most 10", STATE, () -> x.print(10));
        dueThrow("11 sheets", ARGUMENT, () -> x.print(11));
        due("nothing was printed", x.lacking(0), 24);
        due("up to 50", x.print(2), 2);
        dueThrow("a 51st", STATE, () -> x.print(1));
        due("the last sheet", x.onSheet(49, 4), 1000);
        dueThrow("no sheet 50", ELEMENT, () -> x.onSheet(50, 4));
        for (int d = 8; d > 0; d--) {
            x.erase(0, d - 1);
        }
        due("discard()", x.discard(), 2);
        due("nothing lacks, so nothing is too much", x.print(10), 0);
        x.draw(0, 0, 1, 0, 0);
        dueThrow("sheets thrown away still count", STATE, () -> x.print(1));
        due("trim after 48 sheets", dullnessTrim(x), 12);
    }

    private static int dullnessTrim(Thumbreel x) {
        return x.sharpen(1) / 4;
    }

    private static void promise15() {
        promise = "promise 15";
        Thumbreel x = withBook(8);
        x.order(0, 3);
        due("none printed", x.waiting(), 0);
        x.print(2);
        due("two", x.waiting(), 2);
        x.cut(0);
        due("one", x.waiting(), 1);
        x.print(2);
        due("two again", x.waiting(), 2);
        x.erase(0, 0);
        due("spoiled sheets wait as well", x.waiting(), 2);
        x.discard();
        due("thrown away", x.waiting(), 0);
    }

    private static void promise16() {
        promise = "promise 16";
        Thumbreel x = withBook(3);
        dueThrow("no sheet yet", ELEMENT, () -> x.onSheet(0, 0));
        dueThrow("no cell of no sheet", INDEX, () -> x.onSheet(0, 8));
        x.order(0, 1);
        x.order(0, 3);
        x.print(1);
        dueRow("sheet 0", sheetRow(x, 0), 11001, 10001, 10002, 11000, 0, 10000, 2, 1);
        x.print(1);
        dueRow("sheet 1", sheetRow(x, 1), -1, -1, -1, -1, 11002, 12002, 12001, 12000);
        x.erase(0, 0);
        dueRow("a spoiled leaf lies there still", sheetRow(x, 0), 11001, 10001, 10002, 11000, 0, 10000, 2, 1);
        x.discard();
        dueRow("a sheet that was thrown away was printed", sheetRow(x, 1), -1, -1, -1, -1, 11002, 12002, 12001, 12000);
        dueThrow("sheet 2", ELEMENT, () -> x.onSheet(2, 0));
        dueThrow("sheet -1", ELEMENT, () -> x.onSheet(-1, 7));
        dueThrow("cell 8", INDEX, () -> x.onSheet(0, 8));
        dueThrow("cell -1", INDEX, () -> x.onSheet(0, -1));
        for (int far : FAR) {
            dueThrow("sheet " + far, ELEMENT, () -> x.onSheet(far, 0));
            dueThrow("cell " + far, INDEX, () -> x.onSheet(0, far));
        }
    }

    private static void promise17() {
        promise = "promise 17";
        Thumbreel x = new Thumbreel();
        dueThrow("nothing waits", ELEMENT, () -> x.cut(0));
        dueThrow("no knife 2", INDEX, () -> x.cut(2));
        dueThrow("no knife -1", INDEX, () -> x.cut(-1));
        for (int far : FAR) {
            dueThrow("knife " + far, INDEX, () -> x.cut(far));
        }
        x.addBook();
        addDrawings(x, 0, 8);
        x.addBook();
        addDrawings(x, 1, 1);
        x.order(0, 3);
        x.print(3);
        due("the first sheet", x.cut(1), 0);
        due("is that of copy 0", x.leaf(0, 0, 0), 10);
        due("copy 1 is not cut", x.leaf(0, 1, 0), -1);
        due("the second sheet", x.cut(0), 0);
        due("is that of copy 1", x.leaf(0, 1, 0), 10);
        due("the third sheet", x.cut(0), 0);
        dueThrow("no fourth", ELEMENT, () -> x.cut(0));
        due("the failed call dulls nothing", x.sharpen(0), 2);
        due("each knife by itself", x.sharpen(1), 1);
        x.order(1, 1);
        for (int i = 0; i < 13; i++) {
            x.move(1, 0, i);
            x.print(1);
            due("cut " + i, x.cut(0), i / 4);
            due("its trim", x.trim(1, 0, 0), i / 4);
        }
        x.sharpen(0);
        x.move(1, 0, 100);
        x.print(1);
        due("sharp again", x.cut(0), 0);
    }

    private static void promise18() {
        promise = "promise 18";
        Thumbreel x = withBook(8);
        x.order(0, 3);
        x.print(3);
        due("all are of use", x.discard(), 0);
        x.cut(0);
        x.erase(0, 0);
        due("two wait without use", x.discard(), 2);
        due("now none", x.discard(), 0);
        due("none waits", x.waiting(), 0);
        dueThrow("none to cut", ELEMENT, () -> x.cut(0));
        x.print(10);
        x.move(0, 6, 500);
        due("a sheet with one leaf of use stays", x.discard(), 0);
        due("three wait", x.waiting(), 3);
        x.move(0, 0, 501);
        x.move(0, 1, 501);
        x.move(0, 2, 501);
        x.move(0, 3, 501);
        x.move(0, 4, 501);
        due("frame 5 is of use yet", x.discard(), 0);
        x.print(10);
        x.move(0, 5, 501);
        due("the three old ones, between others", x.discard(), 3);
        due("the others wait", x.waiting(), 3);
        due("the next to be cut", x.cut(0), 0);
        due("is the first of them", x.leaf(0, 0, 0), 501);
        Thumbreel y = withBook(8);
        y.order(0, 1);
        y.print(1);
        for (int i = 0; i < 7; i++) {
            y.move(0, i, 500);
        }
        due("the leaf in cell 0 is of use", y.discard(), 0);
        y.move(0, 7, 500);
        due("the first sheet", y.discard(), 1);
        due("and the same again", y.discard(), 0);
    }

    private static void promise19() {
        promise = "promise 19";
        Thumbreel x = withDullKnife(5);
        due("the other knife", x.sharpen(1), 0);
        due("after five", x.sharpen(0), 5);
        due("now sharp", x.sharpen(0), 0);
        dueThrow("no knife 2", INDEX, () -> x.sharpen(2));
        dueThrow("no knife -1", INDEX, () -> x.sharpen(-1));
        for (int far : FAR) {
            dueThrow("knife " + far, INDEX, () -> x.sharpen(far));
        }
        due("after all sheets", withDullKnife(50).sharpen(0), 50);
    }

    private static void promise20() {
        promise = "promise 20";
        Thumbreel x = new Thumbreel();
        due("at first", x.setTolerance(0), 2);
        due("then", x.setTolerance(15), 0);
        dueThrow("16", ARGUMENT, () -> x.setTolerance(16));
        dueThrow("-1", ARGUMENT, () -> x.setTolerance(-1));
        for (int far : FAR) {
            dueThrow("tolerance " + far, ARGUMENT, () -> x.setTolerance(far));
        }
        due("kept", x.setTolerance(3), 15);
        due("last", x.setTolerance(3), 3);
    }

    /** A copy of three leaves whose trims are 0, 1 and 3. */
    private static Thumbreel withUnlikeTrims() {
        Thumbreel x = withDullKnife(12);
        x.draw(0, 0, 10, 0, 0);
        x.print(1);
        x.cut(0);
        x.draw(0, 1, 20, 0, 0);
        x.print(1);
        x.cut(1);
        for (int i = 0; i < 4; i++) {
            x.draw(0, 2, 30 + i, 0, 0);
            x.print(1);
            x.cut(1);
            if (i < 3) {
                x.erase(0, 2);
            }
        }
        return x;
    }

    private static void promise21() {
        promise = "promise 21";
        Thumbreel x = withUnlikeTrims();
        int before = x.spoiled();
        dueRow("trims", new int[] {x.trim(0, 0, 0), x.trim(0, 0, 1), x.trim(0, 0, 2)}, 3, 0, 1);
        due("3 is above 0 and 2", x.bind(0, 0), -1);
        due("spoiled()", x.spoiled() - before, 1);
        due("not bound", x.isBound(0, 0), false);
        due("only the one", x.lacking(0), 1);
        dueThrow("it is not printed", STATE, () -> x.bind(0, 0));
        x.print(1);
        dueThrow("it is not cut", STATE, () -> x.bind(0, 0));
        x.cut(1);
        due("1 is not above 0 and 2", x.bind(0, 0), 3);
        dueThrow("bound", STATE, () -> x.bind(0, 0));
        due("it stays so", x.isBound(0, 0), true);

        Thumbreel strict = withUnlikeTrims();
        strict.setTolerance(0);
        due("3 and 1 are above 0", strict.bind(0, 0), -2);
        due("the least stays", strict.leaf(0, 0, 1), 20);
        Thumbreel mild = withUnlikeTrims();
        mild.setTolerance(3);
        due("3 is not above 0 and 3", mild.bind(0, 0), 3);

        Thumbreel first = withBook(1);
        first.order(0, 1);
        first.print(1);
        first.cut(1);
        for (int i = 0; i < 13; i++) {
            first.draw(0, 1, 100 + i, 0, 0);
            first.print(1);
            first.cut(0);
            if (i < 12) {
                first.erase(0, 1);
            }
        }
        due("3 is above 0 and 2, the least of the first frame", first.bind(0, 0), -1);

        Thumbreel y = withBook(0);
        y.order(0, 2);
        due("no frames", y.bind(0, 1), 0);
        due("the other copy", y.isBound(0, 0), false);
        dueThrow("bound with no frames", STATE, () -> y.bind(0, 1));
        y.draw(0, 0, 1, 0, 0);
        due("the bound copy needs no more", y.lacking(0), 1);
        dueThrow("no order", INDEX, () -> y.bind(1, 0));
        dueThrow("no copy", INDEX, () -> y.bind(0, 2));
        for (int far : FAR) {
            dueThrow("order " + far, INDEX, () -> y.bind(far, 0));
            dueThrow("copy " + far, INDEX, () -> y.bind(0, far));
        }
    }

    private static void promise22() {
        promise = "promise 22";
        Thumbreel x = withBook(2);
        x.order(0, 3);
        due("new", x.isBound(0, 2), false);
        x.print(1);
        cutAll(x, 0);
        due("cut", x.isBound(0, 2), false);
        x.bind(0, 2);
        due("bound", x.isBound(0, 2), true);
        due("not the others", x.isBound(0, 0) || x.isBound(0, 1), false);
        x.erase(0, 0);
        due("whatever becomes of the book", x.isBound(0, 2), true);
        dueThrow("no order", INDEX, () -> x.isBound(1, 0) ? 1 : 0);
        dueThrow("order -1", INDEX, () -> x.isBound(-1, 0) ? 1 : 0);
        dueThrow("no copy", INDEX, () -> x.isBound(0, 3) ? 1 : 0);
        dueThrow("copy -1", INDEX, () -> x.isBound(0, -1) ? 1 : 0);
        for (int far : FAR) {
            dueThrow("order " + far, INDEX, () -> x.isBound(far, 0) ? 1 : 0);
            dueThrow("copy " + far, INDEX, () -> x.isBound(0, far) ? 1 : 0);
        }
    }

    private static void promise23() {
        promise = "promise 23";
        Thumbreel x = withUnlikeTrims();
        due("dull", x.trim(0, 0, 0), 3);
        due("sharp", x.trim(0, 0, 1), 0);
        x.move(0, 0, 11);
        due("spoiled", x.trim(0, 0, 0), -1);
        x.print(1);
        due("not cut", x.trim(0, 0, 0), -1);
        x.sharpen(0);
        x.cut(0);
        due("by the new leaf", x.trim(0, 0, 0), 0);
        x.bind(0, 0);
        x.erase(0, 0);
        due("a frame of the bound copy", x.trim(0, 0, 2), 1);
        dueThrow("no frame", INDEX, () -> x.trim(0, 0, 3));
        dueThrow("frame -1", INDEX, () -> x.trim(0, 0, -1));
        dueThrow("no order", INDEX, () -> x.trim(1, 0, 0));
        dueThrow("no copy", INDEX, () -> x.trim(0, 1, 0));
        for (int far : FAR) {
            dueThrow("order " + far, INDEX, () -> x.trim(far, 0, 0));
            dueThrow("copy " + far, INDEX, () -> x.trim(0, far, 0));
            dueThrow("frame " + far, INDEX, () -> x.trim(0, 0, far));
        }
    }

    private interface LeafCall {
        int answer(Thumbreel x, int order, int copy, int frame);
    }

    private static void leafPromise(LeafCall leaf) {
        Thumbreel x = withBook(3);
        x.order(0, 2);
        due("not printed", leaf.answer(x, 0, 0, 0), -1);
        x.print(1);
        due("not cut", leaf.answer(x, 0, 0, 0), -1);
        x.cut(0);
        due("cut", leaf.answer(x, 0, 1, 2), 30);
        x.move(0, 1, 25);
        due("spoiled", leaf.answer(x, 0, 0, 1), -1);
        x.setFolds(Thumbreel.DOWN, Thumbreel.LEFT, Thumbreel.LEFT);
        x.print(1);
        due("not cut again", leaf.answer(x, 0, 0, 1), -1);
        x.cut(0);
        due("cut again", leaf.answer(x, 0, 0, 1), 25);
        due("the old sheet", leaf.answer(x, 0, 0, 2), 30);
        x.bind(0, 1);
        x.draw(0, 3, 40, 0, 0);
        dueThrow("the bound copy has no frame 3", INDEX, () -> leaf.answer(x, 0, 1, 3));
        due("the other has one", leaf.answer(x, 0, 0, 3), -1);
        x.erase(0, 0);
        x.erase(0, 0);
        due("as it is kept", leaf.answer(x, 0, 1, 0), 10);
        due("as it is kept, the last", leaf.answer(x, 0, 1, 2), 30);
        due("of another position", leaf.answer(x, 0, 0, 0), -1);
        dueThrow("the other has no frame 2", INDEX, () -> leaf.answer(x, 0, 0, 2));
        dueThrow("frame -1", INDEX, () -> leaf.answer(x, 0, 0, -1));
        dueThrow("no order", INDEX, () -> leaf.answer(x, 1, 0, 0));
        dueThrow("order -1", INDEX, () -> leaf.answer(x, -1, 0, 0));
        dueThrow("no copy", INDEX, () -> leaf.answer(x, 0, 2, 0));
        dueThrow("copy -1", INDEX, () -> leaf.answer(x, 0, -1, 0));
        for (int far : FAR) {
            dueThrow("order " + far, INDEX, () -> leaf.answer(x, far, 0, 0));
            dueThrow("copy " + far, INDEX, () -> leaf.answer(x, 0, far, 0));
            dueThrow("frame " + far, INDEX, () -> leaf.answer(x, 0, 0, far));
        }
        Thumbreel y = withBook(2);
        y.order(0, 1);
        y.print(1);
        y.cut(0);
        y.erase(0, 1);
        y.draw(0, 1, 20, 0, 0);
        due("a frame that comes back does not mend its leaf", leaf.answer(y, 0, 0, 1), -1);
        due("the other is of use", leaf.answer(y, 0, 0, 0), 10);
    }

    private static void promise24() {
        promise = "promise 24";
        leafPromise((x, order, copy, frame) -> x.leaf(order, copy, frame));
    }

    private static void promise25() {
        promise = "promise 25";
        leafPromise((x, order, copy, frame) -> x.leafByPiles(order, copy, frame));
    }

    private static void promise26() {
        promise = "promise 26";
        Thumbreel x = withUnlikeTrims();
        due("12 to dull a knife, 3 for the third leaf", x.spoiled(), 15);
        x.setTolerance(1);
        x.bind(0, 0);
        due("one by binding", x.spoiled(), 16);
        x.print(1);
        x.erase(0, 1);
        due("one by its place, one by its end", x.spoiled(), 18);
        x.discard();
        due("throwing away spoils none", x.spoiled(), 18);
        Thumbreel y = withBook(1);
        y.order(0, 1);
        y.print(1);
        y.cut(0);
        y.bind(0, 0);
        due("not a bound one", y.move(0, 0, 1), 0);
        due("nor here", y.spoiled(), 0);
    }

    public static void main(String[] args) {
        promise1();
        promise2();
        promise3();
        promise4();
        promise5();
        promise6();
        promise7();
        promise8();
        promise9();
        promise10();
        promise11();
        promise12();
        promise13();
        promise14();
        promise14Limit();
        promise15();
        promise16();
        promise17();
        promise18();
        promise19();
        promise20();
        promise21();
        promise22();
        promise23();
        promise24();
        promise25();
        promise26();
        System.out.println(checks - wrong + " passed, " + wrong + " failed");
        if (wrong != 0) {
            System.exit(1);
        }
    }
}

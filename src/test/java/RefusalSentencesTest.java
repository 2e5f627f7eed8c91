import java.util.ArrayList;
import java.util.List;

/** The sentences about exceptions, the constants and how long an object is used. */
public final class RefusalSentencesTest {
    /** A call that is refused, and the exception that is due. */
    private static final class Refusal {
        final String what;
        final String exception;
        final Act act;

        Refusal(String what, String exception, Act act) {
            this.what = what;
            this.exception = exception;
            this.act = act;
        }
    }

    private interface Act {
        void on(Thumbreel x);
    }

    private interface Maker {
        Thumbreel make();
    }

    private static final List<Refusal> refusals = new ArrayList<>();

    private static void refuse(String what, String exception, Act act) {
        refusals.add(new Refusal(what, exception, act));
    }

    /** Four books, five orders, one copy bound, leaves spoiled, printed and cut, and dull knives. */
    private static Thumbreel busy() {
        Thumbreel x = Sentences.withOrder(1, 0, 1, 2, 3, 4, 5, 6, 7);
        for (int book = 1; book < 4; book++) {
            x.addBook();
            x.draw(book, 0, 10 * book, book, book);
            x.draw(book, 1, 20 * book, 0, 0);
        }
        for (int order = 1; order < 5; order++) {
            x.order(order % 4, order % 3 + 1);
        }
        x.setFolds(Thumbreel.DOWN, Thumbreel.LEFT, Thumbreel.RIGHT);
        x.setTolerance(1);
        x.print(4);
        for (int i = 0; i < 3; i++) {
            x.cut(i % 2);
        }
        x.bind(0, 0);
        x.move(0, 3, 500);
        x.move(2, 0, 600);
        return x;
    }

    /** As busy, and with the most sheets that there can be. */
    private static Thumbreel full() {
        Thumbreel x = busy();
        for (int position = 1; sheets(x) < 50; position++) {
            x.move(0, 0, position);
            x.print(1);
        }
        x.move(0, 1, 700);
        x.move(0, 2, 700);
        return x;
    }

    private static int sheets(Thumbreel x) {
        for (int sheet = 0; sheet < 50; sheet++) {
            int number = sheet;
            if (Sentences.outcome(() -> x.onSheet(number, 0)).equals(Sentences.ELEMENT)) {
                return sheet;
            }
        }
        return 50;
    }

    private static void tell(StringBuilder text, String what, Sentences.Call call) {
        text.append(what).append(' ').append(Sentences.outcome(call)).append('\n');
    }

    /** All that an object answers: what only tells first, then what changes as well. */
    private static String answers(Thumbreel x) {
        StringBuilder text = new StringBuilder();
        for (int i = 0; i < 5; i++) {
            int number = i;
            tell(text, "frames", () -> x.frames(number));
            tell(text, "lacking", () -> x.lacking(number));
            tell(text, "waits", () -> x.waits(number));
            for (int j = 0; j < 9; j++) {
                int frame = j;
                tell(text, "frameAt", () -> x.frameAt(number, frame));
            }
        }
        tellLeaves(text, x);
        for (int i = 0; i < 8 * 51; i++) {
            int number = i;
            tell(text, "onSheet", () -> x.onSheet(number / 8, number % 8));
        }
        for (int i = 0; i < 8; i++) {
            int number = i;
            tell(text, "cellOf", () -> x.cellOf(number));
            tell(text, "placeOf", () -> x.placeOf(number));
        }
        tell(text, "waiting", () -> x.waiting());
        tell(text, "spoiled", () -> x.spoiled());
        tell(text, "setTolerance", () -> x.setTolerance(2));
        tell(text, "print", () -> x.print(1));
        for (int i = 0; i < 4; i++) {
            int knife = i % 2;
            tell(text, "cut", () -> x.cut(knife));
            tell(text, "sharpen", () -> x.sharpen(knife));
        }
        tell(text, "addBook", () -> x.addBook());
        tell(text, "order", () -> x.order(0, 1));
        tell(text, "discard", () -> x.discard());
        tell(text, "waiting", () -> x.waiting());
        return text.toString();
    }

    private static void tellLeaves(StringBuilder text, Thumbreel x) {
        for (int i = 0; i < 5 * 3; i++) {
            int order = i / 3;
            int copy = i % 3;
            tell(text, "isBound", () -> x.isBound(order, copy) ? 1 : 0);
            for (int j = 0; j < 9; j++) {
                int frame = j;
                tell(text, "trim", () -> x.trim(order, copy, frame));
                tell(text, "leaf", () -> x.leaf(order, copy, frame));
                tell(text, "leafByPiles", () -> x.leafByPiles(order, copy, frame));
            }
        }
    }

    private static void dueUnchanged(Maker maker) {
        String want = answers(maker.make());
        for (Refusal refusal : refusals) {
            Thumbreel x = maker.make();
            Sentences.refusedRun(refusal.exception, refusal.what, () -> refusal.act.on(x));
            Sentences.due("all answers behind the refused " + refusal.what + " are as if it had not been",
                answers(x).equals(want));
        }
        refusals.clear();
    }

    private static void changesNothing() {
        Sentences.sentence("Exceptions", "a call that throws changes nothing", () -> {
            refuse("draw, book", Sentences.INDEX, x -> x.draw(4, 0, 0, 0, 0));
            refuse("draw, at", Sentences.INDEX, x -> x.draw(1, 3, 0, 0, 0));
            refuse("draw, position", Sentences.ARGUMENT, x -> x.draw(1, 0, 1000, 0, 0));
            refuse("draw, betweens", Sentences.ARGUMENT, x -> x.draw(1, 0, 0, 6, 0));
            refuse("draw, curve", Sentences.ARGUMENT, x -> x.draw(1, 0, 0, 0, 4));
            refuse("draw, ninth", Sentences.STATE, x -> x.draw(0, 0, 0, 0, 0));
            refuse("erase, book", Sentences.INDEX, x -> x.erase(4, 0));
            refuse("erase, drawing", Sentences.INDEX, x -> x.erase(1, 2));
            refuse("move, book", Sentences.INDEX, x -> x.move(4, 0, 0));
            refuse("move, drawing", Sentences.INDEX, x -> x.move(1, 2, 0));
            refuse("move, position", Sentences.ARGUMENT, x -> x.move(1, 1, 1000));
            refuse("frames", Sentences.INDEX, x -> x.frames(4));
            refuse("frameAt", Sentences.INDEX, x -> x.frameAt(1, 3));
            dueUnchanged(() -> busy());
        });
        Sentences.sentence("Exceptions", "a call that throws changes nothing", () -> {
            refuse("addBook, fifth", Sentences.STATE, x -> x.addBook());
            refuse("order, book", Sentences.INDEX, x -> x.order(4, 1));
            refuse("order, copies", Sentences.ARGUMENT, x -> x.order(0, 4));
            refuse("order, sixth", Sentences.STATE, x -> x.order(0, 1));
            refuse("lacking", Sentences.INDEX, x -> x.lacking(5));
            refuse("waits", Sentences.INDEX, x -> x.waits(5));
            refuse("setFolds, no fold", Sentences.ARGUMENT, x -> x.setFolds(1, 1, 4));
            refuse("setFolds, two upright", Sentences.ARGUMENT, x -> x.setFolds(1, 2, 3));
            refuse("cellOf", Sentences.INDEX, x -> x.cellOf(8));
            refuse("placeOf", Sentences.INDEX, x -> x.placeOf(8));
            refuse("print, none", Sentences.ARGUMENT, x -> x.print(0));
            refuse("print, too many", Sentences.ARGUMENT, x -> x.print(11));
            refuse("onSheet, cell", Sentences.INDEX, x -> x.onSheet(0, 8));
            refuse("onSheet, sheet", Sentences.ELEMENT, x -> x.onSheet(50, 0));
            dueUnchanged(() -> busy());
        });
        Sentences.sentence("Exceptions", "a call that throws changes nothing", () -> {
            refuse("cut, knife", Sentences.INDEX, x -> x.cut(2));
            refuse("sharpen", Sentences.INDEX, x -> x.sharpen(2));
            refuse("setTolerance", Sentences.ARGUMENT, x -> x.setTolerance(16));
            refuse("bind, order", Sentences.INDEX, x -> x.bind(5, 0));
            refuse("bind, copy", Sentences.INDEX, x -> x.bind(0, 1));
            refuse("bind, bound", Sentences.STATE, x -> x.bind(0, 0));
            refuse("bind, not printed and cut", Sentences.STATE, x -> x.bind(2, 0));
            refuse("isBound", Sentences.INDEX, x -> x.isBound(0, 1));
            refuse("trim", Sentences.INDEX, x -> x.trim(0, 0, 8));
            refuse("leaf", Sentences.INDEX, x -> x.leaf(0, 0, 8));
            refuse("leafByPiles", Sentences.INDEX, x -> x.leafByPiles(0, 0, 8));
            dueUnchanged(() -> busy());
            refuse("print, 51st", Sentences.STATE, x -> x.print(1));
            refuse("print, 51st and more", Sentences.STATE, x -> x.print(10));
            dueUnchanged(() -> full());
            refuse("cut, none waits", Sentences.ELEMENT, x -> x.cut(0));
            dueUnchanged(() -> {
                Thumbreel x = busy();
                Sentences.cutAll(x, 1);
                return x;
            });
        });
    }

    private static void whichIsThrown() {
        String words = "If several apply, the one that is named first in the throws clause is thrown";
        Sentences.sentence("Exceptions", words, () -> {
            Thumbreel x = busy();
            Sentences.refused(Sentences.INDEX, "draw, all three", () -> x.draw(0, 9, 1000, 6, 4));
            Sentences.refused(Sentences.INDEX, "draw, no book and position", () -> x.draw(4, 0, -1, 0, 0));
            Sentences.refused(Sentences.INDEX, "draw, at and betweens", () -> x.draw(1, 3, 0, 6, 0));
            Sentences.refused(Sentences.INDEX, "draw, at and curve", () -> x.draw(1, -1, 0, 0, -1));
            Sentences.refused(Sentences.INDEX, "draw, at and the ninth", () -> x.draw(0, -1, 0, 0, 0));
            Sentences.refused(Sentences.ARGUMENT, "draw, position and the ninth", () -> x.draw(0, 8, 1000, 0, 0));
            Sentences.refused(Sentences.ARGUMENT, "draw, betweens and the ninth", () -> x.draw(0, 8, 0, -1, 0));
            Sentences.refused(Sentences.ARGUMENT, "draw, curve and the ninth", () -> x.draw(0, 8, 0, 0, 4));
            Sentences.refused(Sentences.STATE, "draw, the ninth alone", () -> x.draw(0, 8, 0, 0, 0));
            Sentences.refused(Sentences.INDEX, "move, book and position", () -> x.move(4, 0, 1000));
            Sentences.refused(Sentences.INDEX, "move, drawing and position", () -> x.move(1, 2, -1));
            Sentences.refused(Sentences.INDEX, "order, all three", () -> x.order(4, 0));
            Sentences.refused(Sentences.ARGUMENT, "order, copies and the sixth", () -> x.order(0, 0));
            Sentences.refused(Sentences.STATE, "order, the sixth alone", () -> x.order(0, 3));
        });
        Sentences.sentence("Exceptions", words, () -> {
            Thumbreel x = full();
            Sentences.refused(Sentences.ARGUMENT, "print, sheets and the 51st", () -> x.print(11));
            Sentences.refused(Sentences.ARGUMENT, "print, no sheets and the 51st", () -> x.print(0));
            Sentences.refused(Sentences.STATE, "print, the 51st alone", () -> x.print(1));
            Sentences.refused(Sentences.INDEX, "onSheet, cell and sheet", () -> x.onSheet(50, 8));
            Sentences.refused(Sentences.INDEX, "onSheet, cell and sheet below", () -> x.onSheet(-1, -1));
            Sentences.refused(Sentences.ELEMENT, "onSheet, sheet alone", () -> x.onSheet(50, 7));
            Sentences.cutAll(x, 0);
            Sentences.refused(Sentences.INDEX, "cut, knife and none waits", () -> x.cut(2));
            Sentences.refused(Sentences.INDEX, "cut, knife below and none waits", () -> x.cut(-1));
            Sentences.refused(Sentences.ELEMENT, "cut, none waits alone", () -> x.cut(1));
            Sentences.refused(Sentences.INDEX, "bind, no copy 1 of a bound order", () -> x.bind(0, 1));
            Sentences.refused(Sentences.STATE, "bind, bound alone", () -> x.bind(0, 0));
        });
    }

    private static void kinds() {
        Sentences.sentence("Exceptions", "there is no such book, drawing, frame, order, copy, knife, cell or place", () -> {
            Thumbreel x = busy();
            Sentences.refused(Sentences.INDEX, "book", () -> x.frames(4));
            Sentences.refused(Sentences.INDEX, "drawing", () -> x.erase(0, 8));
            Sentences.refused(Sentences.INDEX, "frame", () -> x.frameAt(0, 8));
            Sentences.refused(Sentences.INDEX, "order", () -> x.lacking(5));
            Sentences.refused(Sentences.INDEX, "copy", () -> x.isBound(0, 1) ? 1 : 0);
            Sentences.refused(Sentences.INDEX, "knife", () -> x.sharpen(2));
            Sentences.refused(Sentences.INDEX, "cell", () -> x.placeOf(8));
            Sentences.refused(Sentences.INDEX, "place", () -> x.cellOf(8));
        });
        Sentences.sentence("Exceptions", "another argument is out of its range", () -> {
            Thumbreel x = busy();
            Sentences.refused(Sentences.ARGUMENT, "position", () -> x.move(0, 0, 1000));
            Sentences.refused(Sentences.ARGUMENT, "betweens", () -> x.draw(1, 0, 0, 6, 0));
            Sentences.refused(Sentences.ARGUMENT, "curve", () -> x.draw(1, 0, 0, 0, 4));
            Sentences.refused(Sentences.ARGUMENT, "copies", () -> x.order(0, 4));
            Sentences.refusedRun(Sentences.ARGUMENT, "fold", () -> x.setFolds(4, 1, 2));
            Sentences.refused(Sentences.ARGUMENT, "sheets", () -> x.print(11));
            Sentences.refused(Sentences.ARGUMENT, "tolerance", () -> x.setTolerance(16));
        });
    }

    private static void constants() {
        Sentences.sentence("Exceptions", "`NONE = -1`: There is none.", () ->
            Sentences.due("NONE", Thumbreel.NONE, -1));
        Sentences.sentence("Exceptions", "`EVEN = 0, SLOW_IN = 1, SLOW_OUT = 2, BOTH = 3`: Curves.", () -> {
            int[] curves = {Thumbreel.EVEN, Thumbreel.SLOW_IN, Thumbreel.SLOW_OUT, Thumbreel.BOTH};
            Sentences.dueRow("curves", curves, 0, 1, 2, 3);
        });
        Sentences.sentence("Exceptions", "`LEFT = 0, RIGHT = 1, UP = 2, DOWN = 3`: Folds.", () -> {
            int[] folds = {Thumbreel.LEFT, Thumbreel.RIGHT, Thumbreel.UP, Thumbreel.DOWN};
            Sentences.dueRow("folds", folds, 0, 1, 2, 3);
        });
    }

    private static void calls() {
        Sentences.sentence("What it is", "An object is used for at most 512 calls after it has been made", () -> {
            Thumbreel x = new Thumbreel();
            int calls = 0;
            for (int book = 0; book < 4; book++) {
                x.addBook();
                Sentences.fillBook(x, book);
                calls += 9;
            }
            for (int order = 0; order < 5; order++) {
                x.order(order % 4, 3);
                calls++;
            }
            for (int i = 0; i < 5; i++) {
                Sentences.due("print(10)", x.print(10), 10);
                calls++;
            }
            for (int sheet = 0; sheet < 50; sheet++) {
                Sentences.due("cut " + sheet, x.cut(0), sheet / 4);
                calls++;
            }
            for (; calls < 508; calls++) {
                x.setFolds(calls % 2, 2, 1);
            }
            Sentences.due("call 509", x.bind(0, 0), 43);
            Sentences.due("call 510", x.bind(1, 2), 43);
            Sentences.due("call 511: 5 frames of the two copies that are not bound", x.move(0, 0, 2), 10);
            Sentences.due("call 512", x.leafByPiles(1, 2, 42), 700);
        });
    }

    public static void main(String[] args) {
        kinds();
        whichIsThrown();
        changesNothing();
        constants();
        calls();
        Sentences.finish("Exceptions", "What it is");
    }
}

/** The sentences about knives and binding that name a boundary case: promises 17 to 26 and the terms behind them. */
public final class BindingSentencesTest {
    /** The three calls that tell the leaf of a frame. */
    private interface LeafCall {
        int answer(Thumbreel x, int order, int copy, int frame);
    }

    private static int[] trimRow(Thumbreel x, int order, int copy, int frames) {
        return Sentences.row(frames, frame -> x.trim(order, copy, frame));
    }

    private static void knives() {
        Sentences.sentence("Sheets", "Sheets wait to be cut in the order in which they were printed.", () -> {
            Thumbreel x = Sentences.withOrder(3, 1, 2, 3, 4, 5, 6, 7, 8);
            x.print(2);
            x.setFolds(Thumbreel.DOWN, Thumbreel.LEFT, Thumbreel.RIGHT);
            x.print(1);
            for (int copy = 0; copy < 3; copy++) {
                Sentences.due("not cut yet", x.leaf(0, copy, 0), -1);
                x.cut(copy % 2);
                Sentences.due("cut", x.leaf(0, copy, 0), 1);
            }
        });
        Sentences.sentence("Sheets", "There are the knives 0 and 1", () -> {
            Thumbreel x = Sentences.withOrder(1, 0);
            Sentences.dull(x, 0, 5);
            Sentences.dull(x, 1, 3);
            Sentences.due("sharpen(0)", x.sharpen(0), 5);
            Sentences.due("sharpen(1)", x.sharpen(1), 3);
            Sentences.refused(Sentences.INDEX, "sharpen(2)", () -> x.sharpen(2));
            Sentences.refused(Sentences.INDEX, "sharpen(-1)", () -> x.sharpen(-1));
            Sentences.printOne(x);
            Sentences.refused(Sentences.INDEX, "cut(2)", () -> x.cut(2));
            Sentences.refused(Sentences.INDEX, "cut(-1)", () -> x.cut(-1));
            Sentences.due("it waits still", x.waiting(), 1);
        });
        Sentences.sentence("Sheets", "is how many sheets it has cut since it was sharpened, but 60 at most", () -> {
            Thumbreel x = Sentences.withOrder(1, 0);
            Sentences.due("new", x.sharpen(0), 0);
            Sentences.dull(x, 0, 1);
            Sentences.due("1", x.sharpen(0), 1);
            Sentences.dull(x, 0, 9);
            Sentences.due("since then", x.sharpen(0), 9);
            Sentences.due("sharp", x.sharpen(0), 0);
            // 50 sheets are the most that there can be, so that no knife comes to 60.
            Thumbreel y = Sentences.withOrder(1, 0);
            Sentences.dull(y, 1, 50);
            Sentences.due("the most that a knife can cut", y.sharpen(1), 50);
            Sentences.due("the other", y.sharpen(0), 0);
        });
        Sentences.sentence("Sheets", "a quarter of the dullness that the knife has ahead of this cut, rounded down", () -> {
            Thumbreel x = Sentences.withOrder(1, 0);
            for (int cuts = 0; cuts < 50; cuts++) {
                Sentences.printOne(x);
                Sentences.due("cut behind cuts: " + cuts, x.cut(0), cuts / 4);
                Sentences.due("the trim of the leaf", x.trim(0, 0, 0), cuts / 4);
            }
        });
    }

    private static void terms() {
        Sentences.sentence("Binding", "A copy can be bound if for each frame its leaf is printed, not spoiled, and cut.",
            () -> {
                Thumbreel x = Sentences.withOrder(1, 1, 2, 3, 4, 5, 6, 7, 8);
                Sentences.refused(Sentences.STATE, "none is printed", () -> x.bind(0, 0));
                x.print(1);
                Sentences.refused(Sentences.STATE, "none is cut", () -> x.bind(0, 0));
                x.cut(0);
                Sentences.due("all are", x.bind(0, 0), 8);
            });
        Sentences.sentence("Binding", "for each frame its leaf", () -> {
            for (int frame = 0; frame < 8; frame++) {
                Thumbreel x = Sentences.withOrder(1, 1, 2, 3, 4, 5, 6, 7, 8);
                x.print(1);
                x.cut(0);
                x.move(0, frame, 9);
                Sentences.refused(Sentences.STATE, "the leaf is spoiled of frame " + frame, () -> x.bind(0, 0));
                x.print(1);
                Sentences.refused(Sentences.STATE, "the leaf is not cut of frame " + frame, () -> x.bind(0, 0));
                x.cut(0);
                Sentences.due("bind", x.bind(0, 0), 8);
            }
        });
        Sentences.sentence("Binding", "is above the least one and the tolerance (2 at first), together", () -> {
            Sentences.due("0 and 2 are 2", Sentences.withTrims(0, 2).bind(1, 0), 2);
            Sentences.due("3 is above 0 and 2", Sentences.withTrims(0, 3).bind(1, 0), -1);
            Sentences.due("the least one last", Sentences.withTrims(3, 0).bind(1, 0), -1);
            Sentences.due("4 and 2 are 6", Sentences.withTrims(6, 4).bind(1, 0), 2);
            Sentences.due("6 is above 3 and 2", Sentences.withTrims(6, 3).bind(1, 0), -1);
            for (int tolerance = 0; tolerance <= 4; tolerance++) {
                for (int greatest = 1; greatest <= 5; greatest++) {
                    Thumbreel x = Sentences.withTrims(1, greatest);
                    x.setTolerance(tolerance);
                    String what = "1 and " + greatest + " by tolerance " + tolerance;
                    Sentences.due(what, x.bind(1, 0), greatest > 1 + tolerance ? -1 : 2);
                }
            }
        });
        Sentences.sentence("Binding", "the tolerance", () -> {
            Thumbreel x = Sentences.withTrims(0, 12);
            x.setTolerance(12);
            Sentences.due("the widest that there can be", x.bind(1, 0), 2);
            Thumbreel y = Sentences.withTrims(12, 0);
            y.setTolerance(11);
            Sentences.due("one less", y.bind(1, 0), -1);
            Thumbreel z = Sentences.withTrims(12, 0);
            z.setTolerance(15);
            Sentences.due("the greatest tolerance", z.bind(1, 0), 2);
            Thumbreel like = Sentences.withTrims(2, 2, 2);
            like.setTolerance(0);
            Sentences.due("all alike by the least tolerance", like.bind(1, 0), 3);
        });
        Sentences.sentence("Binding", "the leaves whose trim is above that are spoiled, and it is not bound", () -> {
            Thumbreel x = Sentences.withTrims(0, 3, 2, 4);
            int before = x.spoiled();
            Sentences.due("bind", x.bind(1, 0), -2);
            Sentences.due("spoiled()", x.spoiled() - before, 2);
            Sentences.due("isBound", !x.isBound(1, 0));
            Sentences.dueRow("2 is not above 0 and 2", trimRow(x, 1, 0, 4), 0, -1, 2, -1);
            Sentences.due("lacking", x.lacking(1), 2);
            Sentences.refused(Sentences.STATE, "at once again", () -> x.bind(1, 0));
            x.sharpen(0);
            x.print(1);
            x.cut(0);
            Sentences.due("with new ones", x.bind(1, 0), 4);
        });
        Sentences.sentence("Binding", "A copy that is bound needs no leaves, and its leaves stay as they are.", () -> {
            Thumbreel x = Sentences.withOrder(1, 1, 2);
            x.print(1);
            x.cut(0);
            x.bind(0, 0);
            Sentences.due("move", x.move(0, 0, 9), 0);
            Sentences.due("draw", x.draw(0, 0, 8, 5, 0), 0);
            Sentences.due("lacking", x.lacking(0), 0);
            Sentences.due("waits", x.waits(0), 0);
            Sentences.due("print", x.print(10), 0);
            for (int i = 0; i < 3; i++) {
                Sentences.due("erase", x.erase(0, 0), 0);
            }
            Sentences.due("the first", x.leaf(0, 0, 0), 1);
            Sentences.due("the last", x.leafByPiles(0, 0, 1), 2);
            Sentences.due("its trim", x.trim(0, 0, 1), 0);
            Sentences.due("spoiled()", x.spoiled(), 0);
        });
    }

    private static void promise17() {
        Sentences.sentence("Promise 17", "Cuts the sheet that waits longest.", () -> {
            Thumbreel x = Sentences.withOrder(3, 1, 2, 3, 4, 5, 6, 7, 8);
            x.print(3);
            x.cut(0);
            Sentences.due("the first", x.leaf(0, 0, 7), 8);
            Sentences.due("not the second", x.leaf(0, 1, 7), -1);
            Sentences.due("one less waits", x.waiting(), 2);
            Thumbreel y = Sentences.withOrder(1, 0);
            Sentences.printOne(y);
            Sentences.printOne(y);
            Sentences.due("the first, which is of no use", y.cut(0), 0);
            Sentences.due("the second waits", y.leaf(0, 0, 0), -1);
            y.cut(0);
            Sentences.due("now it is cut", y.leaf(0, 0, 0), 0);
            Thumbreel z = Sentences.withOrder(1, 0);
            Sentences.printOne(z);
            Sentences.printOne(z);
            z.discard();
            z.cut(0);
            Sentences.due("the first was thrown away", z.leaf(0, 0, 0), 0);
        });
        Sentences.sentence("Promise 17", "Returns its trim.", () -> {
            Thumbreel x = Sentences.withOrder(1, 0);
            Sentences.dull(x, 0, 4);
            Sentences.printOne(x);
            Sentences.due("the sharp knife", x.cut(1), 0);
            Sentences.printOne(x);
            Sentences.due("the dull one", x.cut(0), 1);
        });
        Sentences.sentence("Promise 17", "Throws `IndexOutOfBoundsException` as told", () -> {
            Thumbreel x = Sentences.withOrder(1, 0);
            x.print(1);
            Sentences.refused(Sentences.INDEX, "2", () -> x.cut(2));
            Sentences.refused(Sentences.INDEX, "-1", () -> x.cut(-1));
            for (int far : Sentences.FAR) {
                Sentences.refused(Sentences.INDEX, "knife " + far, () -> x.cut(far));
            }
            Sentences.due("it waits still", x.waiting(), 1);
        });
        Sentences.sentence("Promise 17", "if no sheet waits", () -> {
            Thumbreel x = Sentences.withOrder(1, 0);
            Sentences.refused(Sentences.ELEMENT, "none is printed", () -> x.cut(0));
            Sentences.printOne(x);
            x.cut(0);
            Sentences.refused(Sentences.ELEMENT, "it is cut", () -> x.cut(0));
            Sentences.printOne(x);
            x.move(0, 0, 5);
            x.discard();
            Sentences.refused(Sentences.ELEMENT, "it is thrown away", () -> x.cut(1));
            Sentences.due("by that no knife is dulled", x.sharpen(0), 1);
            Sentences.due("nor the other", x.sharpen(1), 0);
        });
    }

    private static void promise18() {
        Sentences.sentence("Promise 18", "Throws away all sheets that wait and have no leaf that is of use.", () -> {
            Thumbreel x = Sentences.withOrder(3, 1, 2, 3, 4, 5, 6, 7, 8);
            Sentences.due("none is printed", x.discard(), 0);
            x.print(3);
            Sentences.due("all are of use", x.discard(), 0);
            x.cut(0);
            x.erase(0, 0);
            Sentences.due("a sheet that is cut does not wait", x.discard(), 2);
            Sentences.due("none waits", x.waiting(), 0);
            Sentences.due("none is left", x.discard(), 0);
            Sentences.due("spoiled()", x.spoiled(), 24);
        });
        Sentences.sentence("Promise 18", "have no leaf that is of use", () -> {
            for (int useful = 0; useful < 8; useful++) {
                Thumbreel x = Sentences.withOrder(1, 1, 2, 3, 4, 5, 6, 7, 8);
                x.print(1);
                for (int frame = 0; frame < 8; frame++) {
                    if (frame != useful) {
                        x.move(0, frame, 9);
                    }
                }
                Sentences.due("the leaf of use at place " + useful, x.discard(), 0);
                x.move(0, useful, 9);
                Sentences.due("none of use", x.discard(), 1);
            }
            Thumbreel y = Sentences.withOrder(1, 1);
            y.print(1);
            Sentences.due("one leaf and empty cells", y.discard(), 0);
            y.move(0, 0, 2);
            Sentences.due("empty cells are of no use", y.discard(), 1);
        });
        Sentences.sentence("Promise 18", "Returns how many these are.", () -> {
            Thumbreel x = Sentences.withOrder(1, 0);
            for (int i = 0; i < 50; i++) {
                Sentences.printOne(x);
            }
            Sentences.due("all but the last", x.discard(), 49);
            Sentences.due("none", x.discard(), 0);
            x.move(0, 0, 5);
            Sentences.due("the last", x.discard(), 1);
        });
    }

    private static void promises19And20() {
        Sentences.sentence("Promise 19", "Returns its dullness before.", () -> {
            Thumbreel x = Sentences.withOrder(1, 0);
            Sentences.due("sharp", x.sharpen(1), 0);
            Sentences.dull(x, 1, 7);
            Sentences.due("the other one", x.sharpen(0), 0);
            Sentences.due("dull", x.sharpen(1), 7);
            Sentences.due("sharp again", x.sharpen(1), 0);
            Sentences.printOne(x);
            Sentences.due("the next trim", x.cut(1), 0);
        });
        Sentences.sentence("Promise 19", "Throws `IndexOutOfBoundsException` as told", () -> {
            Thumbreel x = new Thumbreel();
            Sentences.refused(Sentences.INDEX, "2", () -> x.sharpen(2));
            Sentences.refused(Sentences.INDEX, "-1", () -> x.sharpen(-1));
            for (int far : Sentences.FAR) {
                Sentences.refused(Sentences.INDEX, "knife " + far, () -> x.sharpen(far));
            }
        });
        Sentences.sentence("Promise 20", "`tolerance`: 0 to 15", () -> {
            Thumbreel x = new Thumbreel();
            Sentences.due("0", x.setTolerance(0), 2);
            Sentences.due("15", x.setTolerance(15), 0);
            Sentences.due("15 again", x.setTolerance(15), 15);
        });
        Sentences.sentence("Promise 20", "Returns the tolerance before.", () -> {
            Thumbreel x = new Thumbreel();
            int before = 2;
            for (int tolerance = 0; tolerance <= 15; tolerance++) {
                Sentences.due("setTolerance(" + tolerance + ")", x.setTolerance(tolerance), before);
                before = tolerance;
            }
        });
        Sentences.sentence("Promise 20", "if tolerance is out of range", () -> {
            Thumbreel x = new Thumbreel();
            Sentences.refused(Sentences.ARGUMENT, "16", () -> x.setTolerance(16));
            Sentences.refused(Sentences.ARGUMENT, "-1", () -> x.setTolerance(-1));
            for (int far : Sentences.FAR) {
                Sentences.refused(Sentences.ARGUMENT, "tolerance " + far, () -> x.setTolerance(far));
            }
            Sentences.due("as at first", x.setTolerance(3), 2);
        });
    }

    private static void promise21() {
        Sentences.sentence("Promise 21", "Returns how many leaves it has, if it is bound", () -> {
            for (int frames = 1; frames <= 8; frames++) {
                Thumbreel x = Sentences.withOrder(1, new int[frames]);
                x.print(1);
                x.cut(0);
                Sentences.due("frames: " + frames, x.bind(0, 0), frames);
                Sentences.due("isBound", x.isBound(0, 0));
            }
            Thumbreel y = Sentences.withBook();
            Sentences.fillBook(y, 0);
            y.order(0, 3);
            y.print(10);
            y.print(7);
            Sentences.cutAll(y, 0);
            Sentences.due("the most, trims 0 to 1", y.bind(0, 0), 43);
            Sentences.due("trims 1 to 2", y.bind(0, 1), 43);
            Sentences.due("trims 2 to 4", y.bind(0, 2), 43);
        });
        Sentences.sentence("Promise 21", "(0 by a book without frames)", () -> {
            Thumbreel x = Sentences.withOrder(3);
            Sentences.due("bind", x.bind(0, 1), 0);
            Sentences.due("it is bound", x.isBound(0, 1));
            Sentences.due("the others are not", !x.isBound(0, 0) && !x.isBound(0, 2));
            Sentences.refused(Sentences.STATE, "it is bound", () -> x.bind(0, 1));
            x.draw(0, 0, 1, 0, 0);
            Sentences.due("it needs no leaf", x.lacking(0), 2);
            Sentences.refused(Sentences.INDEX, "it has no leaf", () -> x.leaf(0, 1, 0));
            x.erase(0, 0);
            Sentences.due("a book without frames any more", x.bind(0, 0), 0);
        });
        Sentences.sentence("Promise 21", "otherwise how many are spoiled by that, below 0: so -3 for three", () -> {
            Sentences.due("one", Sentences.withTrims(0, 0, 3).bind(1, 0), -1);
            Sentences.due("two", Sentences.withTrims(3, 0, 3).bind(1, 0), -2);
            Sentences.due("three", Sentences.withTrims(3, 3, 0, 3).bind(1, 0), -3);
            Sentences.due("those of a copy, not of another", Sentences.withTrims(0, 3).bind(0, 0), 1);
        });
        Sentences.sentence("Promise 21", "as told, of the order or the copy", () -> {
            Thumbreel x = Sentences.withOrder(2);
            Sentences.refused(Sentences.INDEX, "order 1", () -> x.bind(1, 0));
            Sentences.refused(Sentences.INDEX, "order -1", () -> x.bind(-1, 0));
            Sentences.refused(Sentences.INDEX, "copy 2", () -> x.bind(0, 2));
            Sentences.refused(Sentences.INDEX, "copy -1", () -> x.bind(0, -1));
            for (int far : Sentences.FAR) {
                Sentences.refused(Sentences.INDEX, "order " + far, () -> x.bind(far, 0));
                Sentences.refused(Sentences.INDEX, "copy " + far, () -> x.bind(0, far));
            }
            Sentences.due("copy 1", x.bind(0, 1), 0);
        });
        Sentences.sentence("Promise 21", "if it is bound, or a leaf is not printed and cut", () -> {
            Thumbreel x = Sentences.withOrder(2, 1, 2, 3, 4, 5);
            Sentences.refused(Sentences.STATE, "none is printed", () -> x.bind(0, 0));
            x.print(1);
            Sentences.refused(Sentences.STATE, "none is cut", () -> x.bind(0, 0));
            x.cut(0);
            Sentences.refused(Sentences.STATE, "two are not printed", () -> x.bind(0, 1));
            x.print(1);
            Sentences.refused(Sentences.STATE, "two are not cut", () -> x.bind(0, 1));
            Sentences.due("all are cut", x.bind(0, 0), 5);
            Sentences.refused(Sentences.STATE, "it is bound", () -> x.bind(0, 0));
            x.cut(0);
            Sentences.due("the other", x.bind(0, 1), 5);
            for (int i = 0; i < 5; i++) {
                x.erase(0, 0);
            }
            Sentences.refused(Sentences.STATE, "it is bound, the book has no frames", () -> x.bind(0, 1));
        });
    }

    private static void promise22() {
        Sentences.sentence("Promise 22", "Returns whether a copy is bound.", () -> {
            Thumbreel x = Sentences.withOrder(3, 1);
            x.print(1);
            Sentences.due("printed", !x.isBound(0, 1));
            x.cut(0);
            Sentences.due("cut", !x.isBound(0, 1));
            x.bind(0, 1);
            Sentences.due("bound", x.isBound(0, 1));
            Sentences.due("not the first", !x.isBound(0, 0));
            Sentences.due("not the last", !x.isBound(0, 2));
            x.erase(0, 0);
            Sentences.due("bound, the book has no frames", x.isBound(0, 1));
        });
        Sentences.sentence("Promise 22", "as told, of the order or the copy", () -> {
            Thumbreel x = Sentences.withOrder(2);
            Sentences.refused(Sentences.INDEX, "order 1", () -> x.isBound(1, 0) ? 1 : 0);
            Sentences.refused(Sentences.INDEX, "order -1", () -> x.isBound(-1, 0) ? 1 : 0);
            Sentences.refused(Sentences.INDEX, "copy 2", () -> x.isBound(0, 2) ? 1 : 0);
            Sentences.refused(Sentences.INDEX, "copy -1", () -> x.isBound(0, -1) ? 1 : 0);
            for (int far : Sentences.FAR) {
                Sentences.refused(Sentences.INDEX, "order " + far, () -> x.isBound(far, 0) ? 1 : 0);
                Sentences.refused(Sentences.INDEX, "copy " + far, () -> x.isBound(0, far) ? 1 : 0);
            }
            Sentences.due("copy 1", !x.isBound(0, 1));
        });
    }

    /** What promises 23 to 25 say in the same words; a leaf of frame f shows f + shown, or all have one answer. */
    private static void leafPromise(String promise, LeafCall leaf, int shown, boolean isTrim) {
        Sentences.sentence(promise, "`frame`: a frame of the book, or of the copy, if it is bound", () -> {
            Thumbreel x = Sentences.withOrder(2, shown, shown + 1, shown + 2);
            x.print(1);
            x.cut(0);
            Sentences.refused(Sentences.INDEX, "frame 3", () -> leaf.answer(x, 0, 0, 3));
            x.bind(0, 0);
            Sentences.refused(Sentences.INDEX, "frame 3 of the bound copy", () -> leaf.answer(x, 0, 0, 3));
            x.draw(0, 3, 9, 0, 0);
            Sentences.refused(Sentences.INDEX, "frame 3, of the book alone", () -> leaf.answer(x, 0, 0, 3));
            Sentences.due("frame 3 of the other copy", leaf.answer(x, 0, 1, 3), -1);
            Sentences.refused(Sentences.INDEX, "frame 4", () -> leaf.answer(x, 0, 1, 4));
            for (int i = 0; i < 4; i++) {
                x.erase(0, 0);
            }
            Sentences.due("frame 0 of the copy alone", leaf.answer(x, 0, 0, 0), isTrim ? 0 : shown);
            Sentences.due("frame 2 of the copy alone", leaf.answer(x, 0, 0, 2), isTrim ? 0 : shown + 2);
            Sentences.refused(Sentences.INDEX, "frame 0 of the other copy", () -> leaf.answer(x, 0, 1, 0));
            Sentences.refused(Sentences.INDEX, "frame -1 of the copy", () -> leaf.answer(x, 0, 0, -1));
        });
        Sentences.sentence(promise, "NONE if it is not printed and cut.", () -> {
            Thumbreel x = Sentences.withOrder(1, 0, 999);
            Sentences.due("not printed", leaf.answer(x, 0, 0, 0), -1);
            x.print(1);
            Sentences.due("not cut", leaf.answer(x, 0, 0, 0), -1);
            x.cut(0);
            Sentences.due("cut, at position 0", leaf.answer(x, 0, 0, 0), 0);
            Sentences.due("cut, at position 999", leaf.answer(x, 0, 0, 1), isTrim ? 0 : 999);
            x.move(0, 1, 998);
            Sentences.due("spoiled", leaf.answer(x, 0, 0, 1), -1);
            x.print(1);
            Sentences.due("printed again", leaf.answer(x, 0, 0, 1), -1);
            x.cut(1);
            Sentences.due("cut again", leaf.answer(x, 0, 0, 1), isTrim ? 0 : 998);
            Thumbreel y = Sentences.withTrims(0, 3);
            y.bind(1, 0);
            Sentences.due("spoiled by binding", leaf.answer(y, 1, 0, 1), -1);
            Sentences.due("not that one", leaf.answer(y, 1, 0, 0), 0);
        });
        Sentences.sentence(promise, "as told, of the order, the copy or the frame", () -> {
            Thumbreel x = Sentences.withOrder(2, 1, 2);
            x.addBook();
            x.order(1, 1);
            Sentences.refused(Sentences.INDEX, "order 2", () -> leaf.answer(x, 2, 0, 0));
            Sentences.refused(Sentences.INDEX, "order -1", () -> leaf.answer(x, -1, 0, 0));
            Sentences.refused(Sentences.INDEX, "copy 2", () -> leaf.answer(x, 0, 2, 0));
            Sentences.refused(Sentences.INDEX, "copy -1", () -> leaf.answer(x, 0, -1, 0));
            Sentences.refused(Sentences.INDEX, "copy 1 of one", () -> leaf.answer(x, 1, 1, 0));
            Sentences.refused(Sentences.INDEX, "frame 2", () -> leaf.answer(x, 0, 0, 2));
            Sentences.refused(Sentences.INDEX, "frame -1", () -> leaf.answer(x, 0, 0, -1));
            Sentences.refused(Sentences.INDEX, "frame 0 of none", () -> leaf.answer(x, 1, 0, 0));
            for (int far : Sentences.FAR) {
                Sentences.refused(Sentences.INDEX, "order " + far, () -> leaf.answer(x, far, 0, 0));
                Sentences.refused(Sentences.INDEX, "copy " + far, () -> leaf.answer(x, 0, far, 0));
                Sentences.refused(Sentences.INDEX, "frame " + far, () -> leaf.answer(x, 0, 0, far));
            }
            Sentences.due("the last of all", leaf.answer(x, 0, 1, 1), -1);
        });
    }

    private static void promises23To25() {
        leafPromise("Promise 23", (x, order, copy, frame) -> x.trim(order, copy, frame), 5, true);
        leafPromise("Promise 24", (x, order, copy, frame) -> x.leaf(order, copy, frame), 5, false);
        leafPromise("Promise 25", (x, order, copy, frame) -> x.leafByPiles(order, copy, frame), 5, false);
        Sentences.sentence("Promise 23", "Returns the trim of the leaf of a frame.", () -> {
            Thumbreel x = Sentences.withTrims(0, 1, 2, 4);
            Sentences.dueRow("each by its own sheet", trimRow(x, 1, 0, 4), 0, 1, 2, 4);
            Sentences.dueRow("the greatest that there can be", trimRow(Sentences.withTrims(12, 0), 1, 0, 2), 12, 0);
        });
        Sentences.sentence("Promise 24", "as it is kept", () -> {
            Thumbreel x = Sentences.withOrder(1, 999);
            x.print(1);
            x.cut(0);
            x.bind(0, 0);
            x.move(0, 0, 0);
            Sentences.due("of a bound copy", x.leaf(0, 0, 0), 999);
        });
        Sentences.sentence("Promise 25", "found by folding all sheets that were cut", () -> {
            Thumbreel x = Sentences.withBook();
            Sentences.fillBook(x, 0);
            x.order(0, 3);
            x.print(10);
            x.setFolds(Thumbreel.UP, Thumbreel.LEFT, Thumbreel.LEFT);
            x.print(10);
            for (int sheet = 0; sheet < 17; sheet++) {
                x.cut(0);
                int last = Math.min(128, 8 * sheet + 7);
                Sentences.due("of sheet " + sheet, x.leafByPiles(0, last / 43, last % 43), x.frameAt(0, last % 43));
                if (last < 128) {
                    Sentences.due("the next", x.leafByPiles(0, (last + 1) / 43, (last + 1) % 43), -1);
                }
            }
            for (int leaf = 0; leaf < 129; leaf++) {
                Sentences.due("leaf " + leaf, x.leafByPiles(0, leaf / 43, leaf % 43), x.leaf(0, leaf / 43, leaf % 43));
            }
        });
    }

    private static void promise26() {
        Sentences.sentence("Promise 26", "Returns how many leaves were spoiled.", () -> {
            Thumbreel x = Sentences.withOrder(2, 1, 2);
            Sentences.due("none is printed", x.spoiled(), 0);
            x.print(1);
            x.move(0, 0, 3);
            Sentences.due("two by moving", x.spoiled(), 2);
            x.move(0, 0, 1);
            Sentences.due("each but once", x.spoiled(), 2);
            x.print(1);
            x.draw(0, 0, 9, 0, 0);
            Sentences.due("four by drawing", x.spoiled(), 6);
            x.print(1);
            x.erase(0, 2);
            Sentences.due("two by erasing", x.spoiled(), 8);
            x.discard();
            Sentences.due("none by throwing away", x.spoiled(), 8);
            Thumbreel y = Sentences.withTrims(0, 3);
            int before = y.spoiled();
            y.bind(1, 0);
            Sentences.due("one by binding", y.spoiled() - before, 1);
            y.erase(1, 1);
            Sentences.due("it is spoiled already", y.spoiled() - before, 1);
            y.bind(1, 0);
            y.erase(1, 0);
            Sentences.due("none of a bound copy", y.spoiled() - before, 1);
        });
    }

    public static void main(String[] args) {
        knives();
        terms();
        promise17();
        promise18();
        promises19And20();
        promise21();
        promise22();
        promises23To25();
        promise26();
        Sentences.finish("Sheets", "Binding", "Promise 17", "Promise 18", "Promise 19", "Promise 20", "Promise 21",
            "Promise 22", "Promise 23", "Promise 24", "Promise 25", "Promise 26");
    }
}

/** Promises 24 to 27, row by row. */
final class CodeRows extends Rows {
    @Says(promise = 24, value = "Returns how many numbers.")
    private static void p24ReturnsHowManyNumbers() {
        due("four open faces", 4, x -> x.codeLength(), loose(1));
        due("one pair", 8, x -> x.codeLength(), Bench.folded().make());
        due("two pairs", 12, x -> x.codeLength(), Bench.reversed().make());
        due("7 to new blocks, 25 to others", 7 + 3 * 25, x -> x.codeLength(), Bench.ring().make());
        due("7 to new blocks, 25 to others", 7 + 3 * 25, x -> x.codeLength(), Bench.oneEdge().make());
        Tetrahedry row = loose(8);
        for (int b = 7; b > 0; b--) {
            row.glue(b, 0, b - 1, 21);
        }
        due("a row: 7 to new blocks, 7 back, 18 open", 7 + 3 * 7 + 18, x -> x.codeLength(), row);
    }

    @Says(promise = 24, value = "Throws `UnsupportedOperationException` if there is not just one part")
    private static void p24ThrowsIfThereIsNotJustOnePart() {
        notOnePart((x, k) -> x.codeLength());
    }

    @Says(promise = 25, value = "Returns the number.")
    private static void p25ReturnsTheNumber() {
        due("the first of an open block", 0, x -> x.codeAt(0), loose(1));
        due("the last of an open block", 0, x -> x.codeAt(3), loose(1));
        int[] due = {0, 0, 2, 0, 1, 2, 0, 1};
        int[] small = {2, 0, 6, 2, 0, 6, 2, 0, 1, 2, 0, 1};
        for (int k = 0; k < 8; k++) {
            int at = k;
            due("one pair, the number " + k, due[k], x -> x.codeAt(at), Bench.folded().make());
        }
        for (int k = 0; k < 12; k++) {
            int at = k;
            due("two pairs, the number " + k, small[k], x -> x.codeAt(at), Bench.space(1, SMALL_SPHERE));
        }
        due("the last of the longest", 82, x -> {
            int k = 0;
            while (k < 82 && x.codeAt(k) >= 0) {
                k++;
            }
            return k;
        }, Bench.ring().make());
    }

    @Says(promise = 25, value = "Throws `UnsupportedOperationException` if there is not just one part")
    private static void p25ThrowsIfThereIsNotJustOnePart() {
        notOnePart((x, k) -> x.codeAt(k));
    }

    @Says(promise = 25, value = "Throws `NoSuchElementException` if there is none")
    private static void p25ThrowsIfThereIsNone() {
        for (Bench bench : Bench.all()) {
            if (bench.make().parts() == 1) {
                bench.refuses("index", NONE, Bench.outside(0, bench.make().codeLength() - 1, (x, k) -> x.codeAt(k)));
            }
        }
    }

    @Says(promise = 26, value = "Keeps the code, in place of one that is kept there.")
    private static void p26KeepsTheCodeInPlaceOfOneThatIsKeptThere() {
        for (int k = 0; k < 3; k++) {
            int slot = k;
            Tetrahedry x = loose(1);
            x.keepCode(slot);
            x.glue(0, 0, 0, 6);
            due("before", false, y -> y.isKept(slot), x);
            x.keepCode(slot);
            due("the new one, longer", true, y -> y.isKept(slot), x);
            x.unglue(0, 0);
            due("the old one no more", false, y -> y.isKept(slot), x);
            x.keepCode(slot);
            due("the new one, shorter", true, y -> y.isKept(slot), x);
            for (int other = 0; other < 3; other++) {
                int at = other;
                due("no other slot", other == slot ? "true" : "throws " + NONE.getName(),
                        y -> Bench.answer(z -> z.isKept(at), y), x);
            }
        }
    }

    @Says(promise = 26, value = "Returns how long it is.")
    private static void p26ReturnsHowLongItIs() {
        due("the shortest", 4, x -> x.keepCode(0), loose(1));
        due("the longest", 82, x -> x.keepCode(2), Bench.oneEdge().make());
        due("again", 22, x -> x.keepCode(0), Bench.sphere().make());
    }

    @Says(promise = 26, value = "Throws `IllegalArgumentException` if there is no such slot")
    private static void p26ThrowsIfThereIsNoSuchSlot() {
        for (Bench bench : Bench.all()) {
            bench.refuses("slot", ARGUMENT, Bench.outside(0, 2, (x, slot) -> x.keepCode(slot)));
        }
    }

    @Says(promise = 26, value = "Throws `UnsupportedOperationException` if there is not just one part")
    private static void p26ThrowsIfThereIsNotJustOnePart() {
        notOnePart((x, k) -> x.keepCode(k));
    }

    @Says(promise = 27, value = "Returns true if so.")
    private static void p27ReturnsTrueIfSo() {
        Tetrahedry x = Bench.ring().make();
        due("the longest", true, y -> y.isKept(2), x);
        x.unglue(7, 0);
        due("shorter", false, y -> y.isKept(2), x);
        x.undo();
        due("undone", true, y -> y.isKept(2), x);
        x.unglue(7, 0);
        x.glue(7, 0, 7, 10);
        due("as long, the last numbers are others", false, y -> y.isKept(2), x);
        Tetrahedry sphere = Bench.sphere().make();
        due("two blocks", true, y -> y.isKept(0), sphere);
        sphere.clear();
        Bench.glueAll(sphere, 2, 1, 3, 0, 10, 0, 3, 1, 13, 0, 1, 1, 13, 0, 0, 1, 13);
        due("made anew by other names", true, y -> y.isKept(0), sphere);
    }

    @Says(promise = 27, value = "Throws `IllegalArgumentException` if there is no such slot")
    private static void p27ThrowsIfThereIsNoSuchSlot() {
        for (Bench bench : Bench.all()) {
            bench.refuses("slot", ARGUMENT, Bench.outside(0, 2, (x, slot) -> x.isKept(slot)));
        }
    }

    @Says(promise = 27, value = "Throws `UnsupportedOperationException` if there is not just one part")
    private static void p27ThrowsIfThereIsNotJustOnePart() {
        notOnePart((x, k) -> x.isKept(k));
        new Bench("two parts, all codes kept", 2, x -> {
            x.addBlock();
            for (int slot = 0; slot < 3; slot++) {
                x.keepCode(slot);
            }
            x.addBlock();
        }).refuses("parts", UNSUPPORTED, x -> x.isKept(0), x -> x.isKept(1), x -> x.isKept(2));
    }

    @Says(promise = 27, value = "Throws `NoSuchElementException` if none is kept there")
    private static void p27ThrowsIfNoneIsKeptThere() {
        Bench.loose(1).refuses("nothing kept", NONE, x -> x.isKept(0), x -> x.isKept(1), x -> x.isKept(2));
        Bench.folded().refuses("kept in 1", NONE, x -> x.isKept(0), x -> x.isKept(2));
        Bench.sphere().refuses("kept in 0", NONE, x -> x.isKept(1), x -> x.isKept(2));
        Bench.ring().refuses("kept in 2", NONE, x -> x.isKept(0), x -> x.isKept(1));
    }
}

/** The rows of parameters that tell a range: the first and the last number of it answer, all that are out of it do not. */
final class ParameterRows extends Rows {
    /** Each number from 0 to the highest one answers, none beside them does. */
    private static void answersFrom0To(int high, String what, Class<? extends RuntimeException> want, Bench bench,
            Bench.WithNumber call) {
        for (int number = 0; number <= high; number++) {
            int at = number;
            String got = Bench.answer(x -> call.on(x, at), bench.make());
            Check.tell(what + " " + at + " on " + bench.name + " answers", false, got.startsWith("throws"));
        }
        bench.refuses(what, want, Bench.outside(0, high, call));
    }

    @Says(promise = 4, value = "`other`: the other block, or the same")
    private static void p04Other() {
        for (int blocks = 1; blocks <= 8; blocks++) {
            for (int block = 0; block < blocks; block++) {
                int at = block;
                answersFrom0To(blocks - 1, "other", INDEX, Bench.loose(blocks), (x, other) -> x.glue(at, 3, other, 1));
            }
        }
    }

    @Says(promise = 4, value = "`order`: the number of the order")
    private static void p04Order() {
        answersFrom0To(23, "order", ARGUMENT, Bench.loose(8), (x, order) -> x.glue(7, 0, 0, order));
        // those by which the face 3 goes to itself are no gluings of one block
        for (int order = 0; order < 24; order++) {
            int by = order;
            String got = Bench.answer(x -> x.glue(0, 3, 0, by), loose(1));
            Check.tell("order " + by, goes(by, 3) == 3 ? "throws " + UNSUPPORTED.getName() : "" + goes(by, 3), got);
        }
    }

    @Says(promise = 15, value = "`edge`: the edge of it, 0 to 5")
    private static void p15Edge() {
        for (Bench bench : Bench.all()) {
            for (int block = 0; block < bench.blocks; block++) {
                int at = block;
                answersFrom0To(5, "edge", ARGUMENT, bench, (x, edge) -> x.edgeOf(at, edge));
            }
        }
    }

    @Says(promise = 20, value = "`corner`: the corner of it")
    private static void p20Corner() {
        for (Bench bench : Bench.all()) {
            for (int block = 0; block < bench.blocks; block++) {
                int at = block;
                answersFrom0To(3, "corner", ARGUMENT, bench, (x, corner) -> x.cornerOf(at, corner));
            }
        }
    }

    @Says(promise = 25, value = "`index`: the index, from 0")
    private static void p25Index() {
        for (Bench bench : Bench.all()) {
            if (bench.make().parts() == 1) {
                answersFrom0To(bench.make().codeLength() - 1, "index", NONE, bench, (x, index) -> x.codeAt(index));
            }
        }
    }

    @Says(promise = 26, value = "`slot`: 0 to 2")
    private static void p26Slot() {
        for (Bench bench : Bench.all()) {
            if (bench.make().parts() == 1) {
                answersFrom0To(2, "slot", ARGUMENT, bench, (x, slot) -> x.keepCode(slot));
            }
        }
    }

    @Says(promise = 27, value = "`slot`: 0 to 2")
    private static void p27Slot() {
        Bench kept = new Bench("three codes kept", 1, x -> {
            x.addBlock();
            for (int slot = 0; slot < 3; slot++) {
                x.keepCode(slot);
            }
        });
        answersFrom0To(2, "slot", ARGUMENT, kept, (x, slot) -> x.isKept(slot));
        Bench.loose(1).refuses("slots that are empty", NONE, x -> x.isKept(0), x -> x.isKept(1), x -> x.isKept(2));
    }

    @Says(promise = 34, value = "`index`: the index, from 0")
    private static void p34Index() {
        for (Bench bench : Bench.all()) {
            Tetrahedry x = bench.make();
            for (int k = 0; k < x.edges(); k++) {
                int edge = k;
                if (x.isInner(k)) {
                    answersFrom0To(x.relatorLength(k) - 1, "index", NONE, bench, (y, at) -> y.relatorAt(edge, at));
                }
            }
        }
    }

    /** Each block with all faces glued by these has a twist of its own. */
    @Says(promise = 37, value = "`index`: the index, from 0")
    private static void p37Index() {
        for (int blocks = 0; blocks <= 8; blocks++) {
            int all = blocks;
            Bench bench = new Bench(blocks + " with a twist each", blocks, x -> {
                Bench.glueAll(x, all);
                for (int b = 0; b < all; b++) {
                    x.glue(b, 0, b, 9);
                    x.glue(b, 2, b, 9);
                }
            });
            due("twists", blocks, x -> x.twists(), bench.make());
            answersFrom0To(blocks - 1, "index", NONE, bench, (x, index) -> x.twistAt(index));
        }
    }

    @Says(promise = 39, value = "`kind`: the kind, 0 to 6")
    private static void p39Kind() {
        for (int block = 0; block < 8; block++) {
            int at = block;
            answersFrom0To(6, "kind", ARGUMENT, Bench.full(), (x, kind) -> x.setPieces(at, kind, 99));
        }
    }

    @Says(promise = 39, value = "`many`: 0 to 99")
    private static void p39Many() {
        for (int kind = 0; kind < 7; kind++) {
            int of = kind;
            answersFrom0To(99, "many", ARGUMENT, Bench.loose(1), (x, many) -> {
                int before = x.setPieces(0, of, many);
                return before + x.setPieces(0, of, many);
            });
            for (int many = 0; many < 100; many++) {
                int told = many;
                due("kind " + kind, many, x -> {
                    x.setPieces(7, of, told);
                    return x.setPieces(7, of, 0);
                }, loose(8));
            }
        }
    }
}

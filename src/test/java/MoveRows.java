import java.util.List;

/** Promises 28 to 31, row by row. */
final class MoveRows extends Rows {
    /** Blocks in a ring round their edges 01; the last gluing is told. */
    private static Bench round(String name, int blocks, int ring, int last) {
        return new Bench(name, blocks, x -> {
            Bench.glueAll(x, blocks);
            for (int b = 0; b < ring - 1; b++) {
                x.glue(b, 2, b + 1, 1);
            }
            if (last >= 0) {
                x.glue(ring - 1, 2, 0, last);
            }
            x.setPieces(blocks - 1, 6, 99);
        });
    }

    @Says(promise = 28, value = "Returns how many blocks there are then.")
    private static void p28ReturnsHowManyBlocksThereAreThen() {
        for (int blocks = 2; blocks <= 7; blocks++) {
            int last = blocks - 1;
            Bench bench = Bench.glued("a pair", blocks, 0, 0, last, 0);
            due("from the first block", blocks + 1, x -> x.twoForThree(0, 0), bench.make());
            due("from the last block", blocks + 1, x -> x.twoForThree(last, 0), bench.make());
        }
    }

    @Says(promise = 28, value = "Throws `IndexOutOfBoundsException` if there is no such block")
    private static void p28ThrowsIfThereIsNoSuchBlock() {
        noBlock((x, block) -> x.twoForThree(block, 0));
    }

    @Says(promise = 28, value = "Throws `IllegalArgumentException` if there is no such face")
    private static void p28ThrowsIfThereIsNoSuchFace() {
        outOfRange("face", 3, (x, face) -> x.twoForThree(0, face), (x, block, face) -> x.twoForThree(block, face));
    }

    @Says(promise = 28, value = "Throws `UnsupportedOperationException` if the face is open, or is glued to the same"
            + " block, or there would be more than 8 blocks")
    private static void p28ThrowsIfTheFaceIsOpenOrIsGluedToTheSameBlockOrThereWouldBeMoreThan8Blocks() {
        for (Bench bench : Bench.all()) {
            bench.refuses("an open face", UNSUPPORTED, bench.eachFace(false, (x, b, f) -> x.twoForThree(b, f)));
        }
        for (int blocks = 1; blocks <= 8; blocks++) {
            int last = blocks - 1;
            Bench.glued("a last block on itself", blocks, last, 0, last, 23).refuses("the same block", UNSUPPORTED,
                    x -> x.twoForThree(last, 0), x -> x.twoForThree(last, 3));
        }
        Bench.reversed().refuses("the same block", UNSUPPORTED,
                Bench.reversed().eachFace(true, (x, b, f) -> x.twoForThree(b, f)));
        for (Bench bench : List.of(Bench.ring(), Bench.oneEdge(), Bench.glued("a pair of 8", 8, 0, 0, 7, 0))) {
            bench.refuses("nine", UNSUPPORTED, bench.eachFace(true, (x, b, f) -> x.twoForThree(b, f)));
        }
        new Bench("8 by the move itself", 8, x -> {
            Bench.glueAll(x, 7, 0, 0, 6, 0);
            x.twoForThree(0, 0);
        }).refuses("nine", UNSUPPORTED, x -> x.twoForThree(5, 2), x -> x.twoForThree(7, 3));
    }

    @Says(promise = 29, value = "Returns how many blocks there are then.")
    private static void p29ReturnsHowManyBlocksThereAreThen() {
        for (int blocks = 3; blocks <= 8; blocks++) {
            due("round an edge", blocks - 1, x -> x.threeForTwo(0), round("three", blocks, 3, 1).make());
        }
        due("in the last blocks", 7, x -> x.threeForTwo(x.edgeOf(5, 5)),
                Bench.space(8, 5, 0, 6, 6, 6, 0, 7, 6, 7, 0, 5, 6));
    }

    @Says(promise = 29, value = "Throws `IndexOutOfBoundsException` if there is no such edge")
    private static void p29ThrowsIfThereIsNoSuchEdge() {
        noEdge((x, edge) -> x.threeForTwo(edge));
    }

    @Says(promise = 29, value = "Throws `UnsupportedOperationException` if the edge is not as the move wants it")
    private static void p29ThrowsIfTheEdgeIsNotAsTheMoveWantsIt() {
        for (Bench bench : Bench.all()) {
            Tetrahedry x = bench.make();
            for (int k = 0; k < x.edges(); k++) {
                int edge = k;
                if (x.edgeDegree(k) != 3 || !x.isInner(k)) {
                    bench.refuses("degree " + x.edgeDegree(k), UNSUPPORTED, y -> y.threeForTwo(edge));
                }
            }
        }
        stays("two blocks round it", 2, true, false, round("2", 2, 2, 1));
        stays("four blocks round it", 4, true, false, round("4", 4, 4, 1));
        stays("eight blocks round it", 8, true, false, round("8", 8, 8, 1));
        stays("not inner", 3, false, false, round("a row of 3", 3, 3, -1));
        stays("not inner, of eight", 3, false, false, round("a row of 3", 8, 3, -1));
        stays("reversed", 3, true, true, round("3, turned", 3, 3, 7));
        stays("reversed, of eight", 3, true, true, round("3, turned", 8, 3, 7));
        stays("in one block", 3, true, false, Bench.glued("a block", 1, 0, 0, 0, 9, 0, 2, 0, 13));
        stays("in two blocks", 3, true, false,
                Bench.glued("two blocks", 2, 0, 0, 1, 21, 0, 1, 1, 7, 0, 2, 0, 7));
        stays("in one block, reversed", 3, true, true, Bench.glued("a block", 1, 0, 0, 0, 16, 0, 1, 0, 10));
        stays("in two blocks, reversed", 3, true, true,
                Bench.glued("two blocks", 2, 0, 2, 1, 18, 0, 3, 1, 8, 1, 0, 1, 13));
    }

    /** The bench has an edge that is told so; no such one goes. */
    private static void stays(String what, int degree, boolean inner, boolean reversed, Bench bench) {
        Tetrahedry x = bench.make();
        int found = 0;
        for (int k = 0; k < x.edges(); k++) {
            int edge = k;
            if (x.edgeDegree(k) == degree && x.isInner(k) == inner && x.isReversed(k) == reversed) {
                found++;
                bench.refuses(what, UNSUPPORTED, y -> y.threeForTwo(edge));
            }
        }
        Check.tell(what + ": is there", true, found > 0);
    }

    @Says(promise = 30, value = "Returns how many blocks there are then.")
    private static void p30ReturnsHowManyBlocksThereAreThen() {
        for (int blocks = 1; blocks <= 5; blocks++) {
            for (int b = 0; b < blocks; b++) {
                int block = b;
                due("of " + blocks, blocks + 3, x -> x.oneForFour(block), loose(blocks));
            }
        }
    }

    @Says(promise = 30, value = "Throws `IndexOutOfBoundsException` if there is no such block")
    private static void p30ThrowsIfThereIsNoSuchBlock() {
        noBlock((x, block) -> x.oneForFour(block));
    }

    @Says(promise = 30, value = "Throws `UnsupportedOperationException` if there would be more than 8")
    private static void p30ThrowsIfThereWouldBeMoreThan8() {
        for (int blocks = 6; blocks <= 8; blocks++) {
            int last = blocks - 1;
            Bench.loose(blocks).refuses("of " + blocks, UNSUPPORTED, x -> x.oneForFour(0), x -> x.oneForFour(last));
        }
        for (Bench bench : List.of(Bench.full(), Bench.ring(), Bench.oneEdge(), Bench.moved())) {
            bench.refuses("of " + bench.blocks, UNSUPPORTED, x -> x.oneForFour(0), x -> x.oneForFour(5));
        }
    }

    @Says(promise = 31, value = "Returns how many blocks there are then.")
    private static void p31ReturnsHowManyBlocksThereAreThen() {
        for (int blocks = 1; blocks <= 5; blocks++) {
            int first = blocks - 1;
            for (int b = 0; b < blocks; b++) {
                Tetrahedry x = loose(blocks);
                x.oneForFour(b);
                due("of " + (blocks + 3), blocks, y -> y.fourForOne(y.cornerOf(first, 0)), x);
            }
        }
    }

    @Says(promise = 31, value = "Throws `IndexOutOfBoundsException` if there is no such corner")
    private static void p31ThrowsIfThereIsNoSuchCorner() {
        noCorner((x, corner) -> x.fourForOne(corner));
    }

    @Says(promise = 31, value = "Throws `UnsupportedOperationException` if the corner is not as the move wants it")
    private static void p31ThrowsIfTheCornerIsNotAsTheMoveWantsIt() {
        for (Bench bench : Bench.all()) {
            Tetrahedry x = bench.make();
            for (int k = 0; k < x.corners(); k++) {
                int corner = k;
                if (x.cornerDegree(k) != 4) {
                    bench.refuses("degree " + x.cornerDegree(k), UNSUPPORTED, y -> y.fourForOne(corner));
                }
            }
        }
        stays("in one block", Bench.glued("a block", 1, 0, 0, 0, 9, 0, 2, 0, 9), 0, 0);
        stays("in two blocks", Bench.glued("two blocks", 2, 0, 0, 1, 1, 0, 1, 1, 20, 0, 2, 1, 1, 0, 3, 1, 20), 0, 0);
        stays("in three blocks", Bench.glued("three blocks", 3, 0, 0, 2, 9, 0, 1, 0, 5, 0, 2, 1, 14, 1, 1, 2, 7,
                1, 3, 2, 7), 0, 0);
        stays("in pairs", Bench.glued("four blocks", 4, 0, 0, 1, 0, 0, 1, 1, 0, 2, 0, 3, 0, 2, 1, 3, 0, 0, 2, 2, 0,
                1, 2, 3, 0), 0, 3);
        stays("in a row", Bench.glued("four blocks", 4, 0, 2, 1, 1, 1, 2, 2, 1, 2, 2, 3, 1), 0, 0);
        stays("in a ring", Bench.glued("four blocks", 4, 0, 2, 1, 1, 1, 2, 2, 1, 2, 2, 3, 1, 3, 2, 0, 1), 0, 0);
        for (int blocks = 1; blocks <= 5; blocks++) {
            for (int inner = 0; inner < 12; inner++) {
                stays("a face open", split(blocks, inner, false), blocks - 1, 0);
                stays("a face turned", split(blocks, inner, true), blocks - 1, 0);
            }
        }
    }

    /** One for four was made, then one of the faces at the new corner was opened, or glued by another order. */
    private static Bench split(int blocks, int inner, boolean turn) {
        return new Bench("a block parted in four", blocks + 3, x -> {
            Bench.glueAll(x, blocks);
            x.oneForFour(0);
            int block = blocks - 1 + inner / 3;
            int face = inner % 3 + (inner % 3 < inner / 3 ? 0 : 1);
            int other = x.gluedTo(block, face);
            int order = x.gluedBy(block, face);
            x.unglue(block, face);
            if (turn) {
                x.glue(block, face, other, turned(order, inner / 3, face));
            }
        });
    }

    /** The order with what both corners go to exchanged that are neither of the two told. */
    private static int turned(int order, int one, int two) {
        int[] to = new int[4];
        for (int k = 0; k < 4; k++) {
            int from = k == one || k == two ? k : 6 - one - two - k;
            to[k] = goes(order, from);
        }
        return Oracle.orderNumber(to);
    }

    /** The bench has the degree 4 there, and the corner does not go. */
    private static void stays(String what, Bench bench, int block, int corner) {
        Tetrahedry x = bench.make();
        due(what + ", degree", 4, y -> y.cornerDegree(y.cornerOf(block, corner)), x);
        bench.refuses(what, UNSUPPORTED, y -> y.fourForOne(y.cornerOf(block, corner)));
    }
}

import java.util.List;

/** Promises 39 to 48, row by row. */
final class SurfaceRows extends Rows {
    @Says(promise = 39, value = "Returns how many there were.")
    private static void p39ReturnsHowManyThereWere() {
        int[] row = {99, 0, 1, 98, 99, 50, 99, 0, 0};
        for (int block : new int[] {0, 1, 7}) {
            for (int kind = 0; kind < 7; kind++) {
                int of = kind;
                int before = 0;
                Tetrahedry x = loose(8);
                for (int many : row) {
                    due("block " + block + ", kind " + kind, before, y -> y.setPieces(block, of, many), x);
                    before = many;
                }
                for (int k = 0; k < 56; k++) {
                    int at = k;
                    due("none of others", 0, y -> y.setPieces(at / 7, at % 7, 0), x);
                }
            }
        }
    }

    @Says(promise = 39, value = "Throws `IndexOutOfBoundsException` if there is no such block")
    private static void p39ThrowsIfThereIsNoSuchBlock() {
        noBlock((x, block) -> x.setPieces(block, 0, 1));
        noBlock((x, block) -> x.setPieces(block, 6, 99));
    }

    @Says(promise = 39, value = "Throws `IllegalArgumentException` if there is no such kind, or a number is out of"
            + " range")
    private static void p39ThrowsIfThereIsNoSuchKindOrANumberIsOutOfRange() {
        outOfRange("kind", 6, (x, kind) -> x.setPieces(0, kind, 1), (x, block, kind) -> x.setPieces(block, kind, 0));
        outOfRange("many", 99, (x, many) -> x.setPieces(0, 0, many), (x, block, many) -> x.setPieces(block, 6, many));
    }

    @Says(promise = 40, value = "Puts a triangle more at each corner of blocks that is in a corner.")
    private static void p40PutsATriangleMoreAtEachCornerOfBlocksThatIsInACorner() {
        Tetrahedry x = Bench.oneEdge().make();
        for (int k = 0; k < 99; k++) {
            x.putLink(0);
        }
        for (int at = 0; at < 56; at++) {
            int block = at / 7;
            int kind = at % 7;
            due("99 times, at each of all", kind < 4 ? 99 : 0, y -> y.setPieces(block, kind, 0), x);
        }
        for (int corner = 0; corner < 32; corner++) {
            Tetrahedry loose = loose(8);
            loose.putLink(corner);
            for (int at = 0; at < 56; at++) {
                int block = at / 7;
                int kind = at % 7;
                due("once, at one of all", block * 4 + kind == corner && kind < 4 ? 1 : 0,
                        y -> y.setPieces(block, kind, 0), loose);
            }
        }
    }

    @Says(promise = 40, value = "Returns how many.")
    private static void p40ReturnsHowMany() {
        for (int at = 0; at < 32; at++) {
            int corner = at;
            due("one", 1, x -> x.putLink(corner), loose(8));
        }
        due("all", 32, x -> x.putLink(0), Bench.oneEdge().make());
        due("all again", 32, x -> x.putLink(0) - 32 + x.putLink(0), Bench.oneEdge().make());
    }

    @Says(promise = 40, value = "Throws `IndexOutOfBoundsException` if there is no such corner")
    private static void p40ThrowsIfThereIsNoSuchCorner() {
        noCorner((x, corner) -> x.putLink(corner));
    }

    @Says(promise = 40, value = "Throws `UnsupportedOperationException` if there would be more than 99 of one kind")
    private static void p40ThrowsIfThereWouldBeMoreThan99OfOneKind() {
        for (int at = 0; at < 32; at++) {
            int block = at / 4;
            int kind = at % 4;
            int corner = at;
            new Bench("99 at one of 32 as one", 8, x -> {
                Bench.glueAll(x, 8, Bench.ONE_EDGE);
                x.setPieces(block, kind, 99);
            }).refuses("100", UNSUPPORTED, x -> x.putLink(0));
            new Bench("99 at one of 32 loose ones", 8, x -> {
                Bench.glueAll(x, 8);
                x.setPieces(block, kind, 98);
                x.putLink(corner);
            }).refuses("100", UNSUPPORTED, x -> x.putLink(corner));
            Tetrahedry x = loose(8);
            for (int k = 0; k < 56; k++) {
                x.setPieces(k / 7, k % 7, k / 7 * 4 + k % 7 == at && k % 7 < 4 ? 98 : 99);
            }
            due("98, and 99 of all others", 1, y -> y.putLink(corner), x);
        }
    }

    @Says(promise = 41, value = "Returns true if so.")
    private static void p41ReturnsTrueIfSo() {
        for (int blocks = 0; blocks <= 8; blocks++) {
            due("no pieces", true, x -> x.isMatched(), loose(blocks));
        }
        due("no pieces, all faces glued", true, x -> x.isMatched(), Bench.oneEdge().make());
        due("all open, as many as can be", true, x -> x.isMatched(), Bench.full().make());
        due("a link that is whole", true, x -> x.isMatched(), Bench.ring().make());
        for (int kind = 0; kind < 7; kind++) {
            int of = kind;
            Tetrahedry x = Bench.space(8, 6, 0, 7, 0, 6, 1, 7, 0, 6, 2, 7, 0, 6, 3, 7, 0);
            x.setPieces(7, of, 99);
            due("99 and none", false, y -> y.isMatched(), x);
            x.setPieces(6, of, 98);
            due("99 and 98", false, y -> y.isMatched(), x);
            x.setPieces(6, of, 99);
            due("99 and 99", true, y -> y.isMatched(), x);
            x.setPieces(7, of, 0);
            due("none and 99", false, y -> y.isMatched(), x);
        }
    }

    @Says(promise = 42, value = "Returns true if so.")
    private static void p42ReturnsTrueIfSo() {
        for (int blocks = 0; blocks <= 8; blocks++) {
            due("no pieces", true, x -> x.isSingle(), loose(blocks));
        }
        due("as many as can be", false, x -> x.isSingle(), Bench.full().make());
        for (int block = 0; block < 8; block++) {
            int in = block;
            for (int kind = 4; kind < 7; kind++) {
                Tetrahedry x = loose(8);
                for (int k = 0; k < 32; k++) {
                    x.setPieces(k / 4, k % 4, 99);
                }
                x.setPieces(block, kind, 99);
                due("one kind of quads", true, y -> y.isSingle(), x);
                int other = kind == 6 ? 4 : kind + 1;
                x.setPieces((block + 1) % 8, other, 99);
                due("another kind in another block", true, y -> y.isSingle(), x);
                x.setPieces(in, other, 1);
                due("one of another kind", false, y -> y.isSingle(), x);
                x.setPieces(in, other, 0);
                due("none of it", true, y -> y.isSingle(), x);
            }
        }
    }

    @Says(promise = 43, value = "Returns the number of the surface; arcs on open faces are taken once, too.")
    private static void p43ReturnsTheNumberOfTheSurfaceArcsOnOpenFacesAreTakenOnceToo() {
        for (int kind = 0; kind < 7; kind++) {
            for (int block = 0; block < 8; block++) {
                Tetrahedry x = loose(8);
                x.setPieces(block, kind, 1);
                // 3 cuts of edges less 3 arcs and 1 triangle, or 4 less 4 and 1 quad
                due("a disc", 1, y -> y.surfaceNumber(), x);
            }
        }
        Tetrahedry x = Bench.space(8, 7, 0, 7, 6);
        x.setPieces(7, 2, 1);
        x.setPieces(7, 3, 1);
        // the edges 23, 02 and 03, 12 and 13 being 02 and 03: cuts 2, 1, 1; arcs 2 on the pair, 1 and 1; 2 triangles
        due("of two faces that are glued, arcs once", 2 + 1 + 1 - (2 + 1 + 1) + 2, y -> y.surfaceNumber(), x);
    }

    @Says(promise = 43, value = "Returns the number.")
    private static void p43ReturnsTheNumber() {
        due("no blocks", 0, x -> x.surfaceNumber(), new Tetrahedry());
        due("no pieces", 0, x -> x.surfaceNumber(), Bench.oneEdge().make());
        Tetrahedry x = loose(8);
        for (int k = 0; k < 40; k++) {
            x.setPieces(k / 5, k % 5, 99);
        }
        due("as many discs as can be", 40 * 99, y -> y.surfaceNumber(), x);
        Tetrahedry y = Bench.oneEdge().make();
        for (int k = 0; k < 99; k++) {
            y.putLink(0);
        }
        due("as many links as can be", 99 * -14, z -> z.surfaceNumber(), y);
    }

    @Says(promise = 43, value = "Throws `UnsupportedOperationException` if the pieces do not match, or are not single")
    private static void p43ThrowsIfThePiecesDoNotMatchOrAreNotSingle() {
        new Bench("pieces that are single, but do not match", 2, x -> {
            Bench.glueAll(x, 2, 0, 0, 1, 0);
            x.setPieces(1, 3, 1);
        }).refuses("no match", UNSUPPORTED, x -> x.surfaceNumber());
        new Bench("pieces that match, but are not single", 8, x -> {
            Bench.glueAll(x, 8, 0, 0, 1, 0);
            x.setPieces(7, 4, 1);
            x.setPieces(7, 6, 1);
        }).refuses("not single", UNSUPPORTED, x -> x.surfaceNumber());
        Bench.several().refuses("neither", UNSUPPORTED, x -> x.surfaceNumber());
        Bench.full().refuses("not single", UNSUPPORTED, x -> x.surfaceNumber());
    }

    @Says(promise = 44, value = "Counts the ways to have pieces, of each kind none or one, that match and are single,"
            + " none at all counted too.")
    private static void p44CountsTheWaysNoneAtAllCountedToo() {
        due("none at all alone", 1, x -> x.countThin(), new Tetrahedry());
        due("16 of triangles, each with no quad or one of three", 64, x -> x.countThin(), loose(1));
        due("of two blocks as one", 64, x -> x.countThin(), Bench.sphere().make());
        Tetrahedry x = loose(3);
        for (int k = 0; k < 21; k++) {
            x.setPieces(k / 7, k % 7, 99);
        }
        due("whatever pieces there are", 64 * 64 * 64, y -> y.countThin(), x);
    }

    @Says(promise = 44, value = "Returns how many.")
    private static void p44ReturnsHowMany() {
        int ways = 1;
        for (int blocks = 0; blocks <= 3; blocks++) {
            due("loose", ways, x -> x.countThin(), loose(blocks));
            ways *= 64;
        }
        due("a block on itself, and two loose ones", 8 * 64 * 64, x -> x.countThin(), Bench.space(3, SMALL_SPHERE));
        for (int face = 0; face < 4; face++) {
            for (int order = 0; order < 24; order++) {
                Tetrahedry x = Bench.space(2, 1, face, 0, order);
                due("two blocks by one pair", 272, y -> y.countThin(), x);
                x.addBlock();
                due("and a loose one", 272 * 64, y -> y.countThin(), x);
            }
        }
        Lcg lcg = new Lcg(17);
        for (int k = 0; k < 240; k++) {
            Tetrahedry x = new Tetrahedry();
            Oracle oracle = new Oracle();
            glueAtRandom(x, oracle, k % 8 == 0 ? 2 : 1, lcg);
            due("the ways " + k, oracle.countThin(), y -> y.countThin(), x);
        }
    }

    @Says(promise = 44, value = "Throws `UnsupportedOperationException` if there are more than 3 blocks")
    private static void p44ThrowsIfThereAreMoreThan3Blocks() {
        for (int blocks = 4; blocks <= 8; blocks++) {
            Bench.loose(blocks).refuses("blocks", UNSUPPORTED, x -> x.countThin());
        }
        for (Bench bench : List.of(Bench.several(), Bench.full(), Bench.ring(), Bench.oneEdge(), Bench.moved())) {
            bench.refuses("blocks", UNSUPPORTED, x -> x.countThin(), x -> x.countThin());
        }
        new Bench("3 blocks that were 4", 4, x -> {
            Bench.glueAll(x, 3, 0, 0, 1, 0);
            x.countThin();
            x.twoForThree(0, 0);
        }).refuses("blocks", UNSUPPORTED, x -> x.countThin());
    }

    @Says(promise = 45, value = "Returns their number divided by that of all, both converted to float.")
    private static void p45ReturnsTheirNumberDividedByThatOfAllBothConvertedToFloat() {
        for (int blocks = 1; blocks <= 8; blocks++) {
            Tetrahedry x = loose(blocks);
            due("none", 0.0f, y -> y.gluedShare(), x);
            for (int b = 0; b < 2 * blocks; b++) {
                x.glue(b / 2, b % 2 * 2, b / 2, b % 2 == 0 ? 6 : 1);
                float due = (float) (2 * b + 2) / (float) (4 * blocks);
                due("some", due, y -> y.gluedShare(), x);
            }
            due("all", 1.0f, y -> y.gluedShare(), x);
        }
    }

    @Says(promise = 45, value = "Throws `ArithmeticException` if there are no blocks")
    private static void p45ThrowsIfThereAreNoBlocks() {
        Bench.none().refuses("no blocks", ARITHMETIC, x -> x.gluedShare());
        Bench.cleared().refuses("no blocks", ARITHMETIC, x -> x.gluedShare(), x -> x.gluedShare());
        new Bench("no blocks, one undone", 0, x -> {
            x.addBlock();
            x.gluedShare();
            x.undo();
        }).refuses("no blocks", ARITHMETIC, x -> x.gluedShare());
    }

    @Says(promise = 46, value = "Returns the sum divided by their number, both converted to double.")
    private static void p46ReturnsTheSumDividedByTheirNumberBothConvertedToDouble() {
        for (int blocks = 1; blocks <= 8; blocks++) {
            due("loose", 1.0, x -> x.meanDegree(), loose(blocks));
        }
        due("48 as one", 48.0, x -> x.meanDegree(), Bench.oneEdge().make());
        due("6 by 4", 1.5, x -> x.meanDegree(), Bench.folded().make());
        due("48 by 46", 48.0 / 46.0, x -> x.meanDegree(), Bench.space(8, 7, 0, 7, 6));
    }

    @Says(promise = 46, value = "Throws `ArithmeticException` if there are none")
    private static void p46ThrowsIfThereAreNone() {
        Bench.none().refuses("no edges", ARITHMETIC, x -> x.meanDegree());
        Bench.cleared().refuses("no edges", ARITHMETIC, x -> x.meanDegree(), x -> x.meanDegree());
        new Bench("no blocks, one undone", 0, x -> {
            x.addBlock();
            x.meanDegree();
            x.undo();
        }).refuses("no edges", ARITHMETIC, x -> x.meanDegree());
    }

    @Says(promise = 47, value = "Returns 7 at first, then for each block, for each face, 31 times itself, plus, if it is"
            + " glued, the number of the order and 24 times one more than the number of the block.")
    private static void p47Returns7AtFirstThen31TimesItself() {
        long sum = 7;
        for (int blocks = 0; blocks <= 8; blocks++) {
            due("loose", sum, x -> x.checksum(), loose(blocks));
            sum *= 31 * 31 * 31 * 31;
        }
        due("after clear", 7L, x -> x.clear() - 8 + x.checksum(), Bench.ring().make());
        // the faces 0 and 3 by 3210, the least and the greatest numbers that come
        due("the first block by 23", (((7L * 31 + 23 + 24) * 31) * 31) * 31 + 23 + 24, x -> x.checksum(),
                Bench.space(1, 0, 0, 0, 23));
        long last = 7;
        for (int at = 0; at < 32; at++) {
            last = last * 31 + (at == 28 || at == 31 ? 23 + 24 * 8 : at == 0 ? 24 * 2 : at == 4 ? 24 : 0);
        }
        due("the last block by 23, the first ones by 0", last, x -> x.checksum(),
                Bench.space(8, 7, 0, 7, 23, 0, 0, 1, 0));
    }

    @Says(promise = 48, value = "Returns true if so.")
    private static void p48ReturnsTrueIfSo() {
        for (Bench bench : Bench.all()) {
            due(bench.name, true, x -> x.isSound(), bench.make());
        }
        for (int blocks = 0; blocks <= 8; blocks++) {
            due("loose", true, x -> x.isSound(), loose(blocks));
        }
    }
}

/** Promises 32 to 38, row by row. */
final class GroupRows extends Rows {
    /** Blocks in parts of one each; the first ones have the twist 4, the others 5. */
    private static Bench lenses(int blocks, int fours) {
        return new Bench(fours + " lenses of 4, others of 5", blocks, x -> {
            Bench.glueAll(x, blocks);
            for (int b = 0; b < blocks; b++) {
                x.glue(b, 0, b, 9);
                x.glue(b, 2, b, b < fours ? 9 : 13);
            }
        });
    }

    /** Eight blocks one behind the other, each by its face 1 to the face 0 of the next one. */
    private static Tetrahedry tree() {
        Tetrahedry x = loose(8);
        for (int b = 0; b < 7; b++) {
            x.glue(b, 1, b + 1, 6);
        }
        return x;
    }

    @Says(promise = 32, value = "Returns how many.")
    private static void p32ReturnsHowMany() {
        for (int blocks = 0; blocks <= 8; blocks++) {
            due("loose", 0, x -> x.generators(), loose(blocks));
            due("two pairs in each block", 2 * blocks, x -> x.generators(), lenses(blocks, 0).make());
        }
        due("16 pairs, 7 in the tree", 9, x -> x.generators(), Bench.oneEdge().make());
        due("7 pairs, all in the tree", 0, x -> x.generators(), tree());
        due("one more", 1, x -> {
            x.glue(7, 1, 0, 6);
            return x.generators();
        }, tree());
    }

    @Says(promise = 33, value = "Returns how many numbers.")
    private static void p33ReturnsHowManyNumbers() {
        due("the shortest", 1, x -> x.relatorLength(x.edgeOf(0, 5)), Bench.folded().make());
        // each of the 16 pairs has three edges, the 7 of the tree are left out
        due("the longest", 3 * 16 - 3 * 7, x -> x.relatorLength(0), Bench.oneEdge().make());
        due("the last edge of eight blocks", 1, x -> x.relatorLength(x.edges() - 1), Bench.space(8, 7, 0, 7, 6));
    }

    @Says(promise = 33, value = "Throws `IndexOutOfBoundsException` if there is no such edge")
    private static void p33ThrowsIfThereIsNoSuchEdge() {
        noEdge((x, edge) -> x.relatorLength(edge));
    }

    /** All edges that are not inner, of all benches. */
    private static void notInner(Bench.WithNumber call) {
        int found = 0;
        for (Bench bench : Bench.all()) {
            Tetrahedry x = bench.make();
            for (int k = 0; k < x.edges(); k++) {
                int edge = k;
                if (!x.isInner(k)) {
                    found++;
                    bench.refuses("not inner", UNSUPPORTED, y -> call.on(y, edge));
                }
            }
        }
        Check.tell("edges that are not inner", true, found > 48);
    }

    @Says(promise = 33, value = "Throws `UnsupportedOperationException` if it is not inner")
    private static void p33ThrowsIfItIsNotInner() {
        notInner((x, edge) -> x.relatorLength(edge));
    }

    @Says(promise = 34, value = "Returns the number.")
    private static void p34ReturnsTheNumber() {
        due("the first and only one", 1, x -> x.relatorAt(x.edgeOf(0, 5), 0), Bench.folded().make());
        int[] due = {-1, -2, 1, 2};
        for (int k = 0; k < 4; k++) {
            int at = k;
            due("of four, " + k, due[k], x -> x.relatorAt(1, at), Bench.space(1, SMALL_SPHERE));
        }
        for (int k = 0; k < 27; k++) {
            int at = k;
            due("of 27, " + k, true, x -> {
                int number = x.relatorAt(0, at);
                return number != 0 && number >= -9 && number <= 9;
            }, Bench.oneEdge().make());
        }
        due("of the highest generator", 16, x -> x.relatorAt(x.edgeOf(7, 0), 0), highest());
    }

    /** Of the last block, the second one of 16 pairs is that of the faces 2 and 3, round the edge 01. */
    private static Tetrahedry highest() {
        Tetrahedry x = loose(8);
        for (int b = 0; b < 8; b++) {
            x.glue(b, 0, b, 6);
            x.glue(b, 2, b, 1);
        }
        return x;
    }

    @Says(promise = 34, value = "Throws `IndexOutOfBoundsException` if there is no such edge")
    private static void p34ThrowsIfThereIsNoSuchEdge() {
        noEdge((x, edge) -> x.relatorAt(edge, 0));
    }

    @Says(promise = 34, value = "Throws `UnsupportedOperationException` if it is not inner")
    private static void p34ThrowsIfItIsNotInner() {
        notInner((x, edge) -> x.relatorAt(edge, 0));
    }

    @Says(promise = 34, value = "Throws `NoSuchElementException` if there is none")
    private static void p34ThrowsIfThereIsNone() {
        for (Bench bench : Bench.all()) {
            Tetrahedry x = bench.make();
            for (int k = 0; k < x.edges(); k++) {
                int edge = k;
                if (x.isInner(k)) {
                    bench.refuses("index", NONE, Bench.outside(0, x.relatorLength(k) - 1,
                            (y, index) -> y.relatorAt(edge, index)));
                }
            }
        }
    }

    @Says(promise = 35, value = "Returns how many.")
    private static void p35ReturnsHowMany() {
        due("no blocks", 0, x -> x.holes(), new Tetrahedry());
        for (int blocks = 1; blocks <= 8; blocks++) {
            int all = blocks;
            due("no generators", 0, x -> x.holes(), loose(blocks));
            due("as many generators as relators", 0, x -> x.holes(), lenses(blocks, blocks).make());
            due("generators without relators", blocks, x -> {
                for (int b = 0; b < all; b++) {
                    x.glue(b, 0, b, 8);
                }
                return x.holes();
            }, loose(blocks));
        }
        due("9 generators, one relator", 8, x -> x.holes(), Bench.oneEdge().make());
    }

    @Says(promise = 36, value = "Returns how many.")
    private static void p36ReturnsHowMany() {
        due("no blocks", 0, x -> x.twists(), new Tetrahedry());
        due("no generators", 0, x -> x.twists(), loose(8));
        due("a sphere", 0, x -> x.twists(), Bench.ring().make());
        due("holes alone", 0, x -> x.twists(), Bench.oneEdge().make());
        for (int blocks = 1; blocks <= 8; blocks++) {
            for (int fours = 0; fours <= blocks; fours++) {
                due(fours + " of " + blocks, Math.max(fours, blocks - fours), x -> x.twists(),
                        lenses(blocks, fours).make());
            }
        }
    }

    @Says(promise = 37, value = "Returns the number.")
    private static void p37ReturnsTheNumber() {
        for (int blocks = 1; blocks <= 8; blocks++) {
            for (int fours = 0; fours <= blocks; fours++) {
                int fives = blocks - fours;
                int many = Math.max(fours, fives);
                for (int k = 0; k < many; k++) {
                    int at = k;
                    long due = (many - k <= fours ? 4L : 1L) * (many - k <= fives ? 5L : 1L);
                    due(fours + " of " + blocks, due, x -> x.twistAt(at), lenses(blocks, fours).make());
                }
            }
        }
        due("the least that can be", 2L, x -> x.twistAt(0), Bench.space(2, 0, 0, 1, 0, 0, 1, 1, 16, 0, 2, 1,
                23, 0, 3, 1, 7));
    }

    @Says(promise = 37, value = "Throws `NoSuchElementException` if there is none")
    private static void p37ThrowsIfThereIsNone() {
        for (Bench bench : Bench.all()) {
            bench.refuses("index", NONE, Bench.outside(0, bench.make().twists() - 1, (x, k) -> x.twistAt(k)));
        }
        for (int fours = 0; fours <= 8; fours++) {
            Bench bench = lenses(8, fours);
            bench.refuses("index", NONE, Bench.outside(0, Math.max(fours, 8 - fours) - 1, (x, k) -> x.twistAt(k)));
        }
    }

    @Says(promise = 38, value = "Returns in how many ways blocks can have them.")
    private static void p38ReturnsInHowManyWaysBlocksCanHaveThem() {
        int ways = 1;
        for (int blocks = 0; blocks <= 8; blocks++) {
            due("loose", ways, x -> x.countFlat(), loose(blocks));
            ways *= 3;
        }
        for (int ring = 1; ring <= 8; ring++) {
            int all = ring;
            // two of the blocks have a half turn at the inner edge, each other one has one of its two other pairs
            int due = ring * (ring - 1) / 2 << Math.max(0, ring - 2);
            due("a ring of " + ring, due, x -> {
                for (int b = 0; b < all; b++) {
                    x.glue(b, 2, (b + 1) % all, 1);
                }
                return x.countFlat();
            }, loose(ring));
        }
        due("a degree of 48, 8 half turns there", 0, x -> x.countFlat(), Bench.oneEdge().make());
        due("a degree of 6, 2 half turns there", 3, x -> x.countFlat(), Bench.space(1, 0, 0, 0, 12, 0, 1, 0, 11));
        due("and seven loose blocks", 3 * 2187, x -> x.countFlat(), Bench.space(8, 0, 0, 0, 12, 0, 1, 0, 11));
        due("no way but for loose blocks", 0, x -> x.countFlat(), Bench.space(8, 7, 0, 7, 6));
    }
}

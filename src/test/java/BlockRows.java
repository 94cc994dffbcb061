import java.util.List;

/** Promises 1 to 8, row by row. */
final class BlockRows extends Rows {
    @Says(promise = 1, value = "Creates a bench without blocks.")
    private static void p01CreatesABenchWithoutBlocks() {
        Bench.none().refuses("no block 0", INDEX, x -> x.glue(0, 0, 0, 6), x -> x.unglue(0, 0), x -> x.gluedTo(0, 0),
                x -> x.gluedBy(0, 0), x -> x.edgeOf(0, 0), x -> x.cornerOf(0, 0), x -> x.twoForThree(0, 0),
                x -> x.oneForFour(0), x -> x.setPieces(0, 0, 0));
        Bench.none().refuses("no edge, no corner 0", INDEX, x -> x.edgeDegree(0), x -> x.isReversed(0),
                x -> x.isInner(0), x -> x.cornerDegree(0), x -> x.linkNumber(0), x -> x.link(0), x -> x.threeForTwo(0),
                x -> x.fourForOne(0), x -> x.relatorLength(0), x -> x.relatorAt(0, 0), x -> x.putLink(0));
        Bench.none().refuses("nothing to undo, no twist", NONE, x -> x.undo(), x -> x.twistAt(0));
        due("blocks", 0, x -> x.clear(), new Tetrahedry());
        due("another object's blocks", 0, x -> {
            loose(3);
            return x.clear();
        }, new Tetrahedry());
    }

    @Says(promise = 2, value = "Adds a block with open faces.")
    private static void p02AddsABlockWithOpenFaces() {
        for (Bench bench : Bench.all()) {
            if (bench.blocks < 8) {
                Tetrahedry x = bench.make();
                int open = x.openFaces();
                int number = x.addBlock();
                due("open faces more on " + bench.name, open + 4, y -> y.openFaces(), x);
                for (int face = 0; face < 4; face++) {
                    int at = face;
                    due("face " + face + " on " + bench.name, "throws " + NONE.getName(),
                            y -> Bench.answer(z -> z.gluedTo(number, at), y), x);
                }
            }
        }
        Tetrahedry x = Bench.ring().make();
        x.clear();
        for (int k = 0; k < 8; k++) {
            x.addBlock();
        }
        due("in place of glued ones", 32, y -> y.openFaces(), x);
    }

    @Says(promise = 2, value = "Returns its number.")
    private static void p02ReturnsItsNumber() {
        for (Bench bench : Bench.all()) {
            if (bench.blocks < 8) {
                due("on " + bench.name, bench.blocks, x -> x.addBlock(), bench.make());
            }
        }
        Tetrahedry x = new Tetrahedry();
        for (int k = 0; k < 8; k++) {
            due("one behind the other", k, y -> y.addBlock(), x);
        }
        x.undo();
        due("the last one again", 7, y -> y.addBlock(), x);
    }

    @Says(promise = 2, value = "Throws `IllegalStateException` if there are 8")
    private static void p02ThrowsIfThereAre8() {
        for (Bench bench : List.of(Bench.full(), Bench.ring(), Bench.oneEdge())) {
            bench.refuses("a ninth", STATE, x -> x.addBlock(), x -> x.addBlock());
        }
        new Bench("8 by two for three", 8, x -> {
            Bench.glueAll(x, 7, 0, 0, 6, 0);
            x.twoForThree(0, 0);
        }).refuses("a ninth", STATE, x -> x.addBlock());
        new Bench("8 by one for four", 8, x -> {
            Bench.glueAll(x, 5);
            x.oneForFour(0);
        }).refuses("a ninth", STATE, x -> x.addBlock());
        new Bench("8 by undo", 8, x -> {
            Bench.glueAll(x, 8, 0, 2, 1, 1, 1, 2, 2, 1, 2, 2, 0, 1);
            x.threeForTwo(0);
            x.undo();
        }).refuses("a ninth", STATE, x -> x.addBlock());
        due("7 are not 8", 7, x -> x.addBlock(), loose(7));
    }

    @Says(promise = 3, value = "Takes all blocks away, and what can be undone.")
    private static void p03TakesAllBlocksAwayAndWhatCanBeUndone() {
        for (Bench bench : Bench.all()) {
            Tetrahedry x = bench.make();
            x.clear();
            due("to undo on " + bench.name, List.of(), y -> Bench.undone(y), x);
            due("blocks on " + bench.name, 0, y -> y.parts() + y.edges() + y.corners() + y.openFaces(), x);
            due("checksum on " + bench.name, 7L, y -> y.checksum(), x);
            due("again on " + bench.name, 0, y -> y.clear(), x);
            x.addBlock();
            due("to undo of what came since on " + bench.name, List.of(0, 7L), y -> Bench.undone(y), x);
        }
    }

    @Says(promise = 3, value = "Takes all blocks away, and what can be undone.")
    private static void p03WhatComesThenIsAsOnANewBench() {
        for (Bench earlier : Bench.all()) {
            for (Bench bench : Bench.all()) {
                bench.answersAlikeAfter(earlier);
            }
        }
    }

    @Says(promise = 3, value = "Returns how many there were.")
    private static void p03ReturnsHowManyThereWere() {
        for (Bench bench : Bench.all()) {
            due("on " + bench.name, bench.blocks, x -> x.clear(), bench.make());
        }
        for (int k = 0; k <= 8; k++) {
            due("loose", k, x -> x.clear(), loose(k));
        }
    }

    @Says(promise = 4, value = "Returns the face to which it is glued.")
    private static void p04ReturnsTheFaceToWhichItIsGlued() {
        for (int order = 0; order < 24; order++) {
            int by = order;
            for (int face = 0; face < 4; face++) {
                int from = face;
                due("another block", goes(order, face), x -> x.glue(0, from, 1, by), loose(2));
                due("a lower block", goes(order, face), x -> x.glue(7, from, 0, by), loose(8));
                if (goes(order, face) != face) {
                    due("the same block", goes(order, face), x -> x.glue(7, from, 7, by), loose(8));
                }
            }
        }
    }

    @Says(promise = 4, value = "Throws `IndexOutOfBoundsException` if there is no such block, for either")
    private static void p04ThrowsIfThereIsNoSuchBlockForEither() {
        noBlock((x, block) -> x.glue(block, 0, 0, 6));
        noBlock((x, other) -> x.glue(0, 0, other, 6));
        noBlock((x, both) -> x.glue(both, 0, both, 6));
    }

    @Says(promise = 4, value = "Throws `IllegalArgumentException` if there is no such face, or no such order")
    private static void p04ThrowsIfThereIsNoSuchFaceOrNoSuchOrder() {
        outOfRange("face", 3, (x, face) -> x.glue(0, face, 0, 6), (x, block, face) -> x.glue(block, face, 0, 23));
        outOfRange("order", 23, (x, order) -> x.glue(0, 0, 0, order), (x, block, order) -> x.glue(block, 3, 0, order));
    }

    @Says(promise = 4, value = "Throws `UnsupportedOperationException` if one of both faces is glued, or both are the"
            + " same")
    private static void p04ThrowsIfOneOfBothFacesIsGluedOrBothAreTheSame() {
        for (Bench bench : Bench.all()) {
            int last = bench.blocks - 1;
            for (int face = 0; face < 4 && last >= 0; face++) {
                int to = face;
                bench.refuses("from a glued face", UNSUPPORTED,
                        bench.eachFace(true, (x, b, f) -> x.glue(b, f, last, order(f, to))));
                bench.refuses("to a glued face", UNSUPPORTED,
                        bench.eachFace(true, (x, b, f) -> x.glue(last, to, b, order(to, f))));
            }
            bench.refuses("a face to itself", UNSUPPORTED,
                    bench.eachFace(false, (x, b, f) -> x.glue(b, f, b, order(f, f))));
        }
        Bench one = Bench.loose(1);
        for (int order = 0; order < 24; order++) {
            int by = order;
            for (int face = 0; face < 4; face++) {
                int from = face;
                if (goes(order, face) == face) {
                    one.refuses("a face to itself by " + order, UNSUPPORTED, x -> x.glue(0, from, 0, by));
                    due("the same face of another block", face, x -> x.glue(0, from, 1, by), loose(2));
                }
            }
        }
    }

    @Says(promise = 5, value = "Opens a face, and the one to which it is glued.")
    private static void p05OpensAFaceAndTheOneToWhichItIsGlued() {
        for (Bench bench : Bench.all()) {
            for (Bench.Call opening : bench.eachFace(true, (x, b, f) -> {
                int other = x.gluedTo(b, f);
                int across = goes(x.gluedBy(b, f), f);
                x.unglue(b, f);
                return Bench.isGlued(x, b, f) || Bench.isGlued(x, other, across) ? "one is glued" : "both are open";
            })) {
                Tetrahedry x = bench.make();
                int open = x.openFaces();
                due("on " + bench.name, "both are open", y -> opening.on(y), x);
                due("no other face of " + bench.name, open + 2, y -> y.openFaces(), x);
            }
        }
    }

    @Says(promise = 5, value = "Returns the block to which it was glued.")
    private static void p05ReturnsTheBlockToWhichItWasGlued() {
        due("a higher one", 7, x -> x.unglue(0, 3), Bench.space(8, 0, 3, 7, 23));
        due("a lower one", 0, x -> x.unglue(7, 0), Bench.space(8, 0, 3, 7, 23));
        due("the same", 7, x -> x.unglue(7, 0), Bench.space(8, 7, 3, 7, 23));
        due("the same", 0, x -> x.unglue(0, 1), Bench.folded().make());
    }

    @Says(promise = 5, value = "Throws `IndexOutOfBoundsException` if there is no such block")
    private static void p05ThrowsIfThereIsNoSuchBlock() {
        noBlock((x, block) -> x.unglue(block, 0));
    }

    @Says(promise = 5, value = "Throws `IllegalArgumentException` if there is no such face")
    private static void p05ThrowsIfThereIsNoSuchFace() {
        outOfRange("face", 3, (x, face) -> x.unglue(0, face), (x, block, face) -> x.unglue(block, face));
    }

    @Says(promise = 5, value = "Throws `NoSuchElementException` if it is open")
    private static void p05ThrowsIfItIsOpen() {
        for (Bench bench : Bench.all()) {
            bench.refuses("an open face", NONE, bench.eachFace(false, (x, b, f) -> x.unglue(b, f)));
        }
        new Bench("a face that was opened", 2, x -> {
            Bench.glueAll(x, 2, 0, 0, 1, 6);
            x.unglue(1, 1);
        }).refuses("opened again", NONE, x -> x.unglue(0, 0), x -> x.unglue(1, 1));
    }

    @Says(promise = 6, value = "Returns the block.")
    private static void p06ReturnsTheBlock() {
        Tetrahedry x = Bench.space(8, 0, 0, 7, 0, 7, 3, 7, 5, 3, 1, 2, 9);
        due("the last one", 7, y -> y.gluedTo(0, 0), x);
        due("the first one", 0, y -> y.gluedTo(7, 0), x);
        due("the same", 7, y -> y.gluedTo(7, 3), x);
        due("a lower one", 2, y -> y.gluedTo(3, 1), x);
        due("a higher one", 3, y -> y.gluedTo(2, 2), x);
    }

    @Says(promise = 6, value = "Throws `IndexOutOfBoundsException` if there is no such block")
    private static void p06ThrowsIfThereIsNoSuchBlock() {
        noBlock((x, block) -> x.gluedTo(block, 0));
    }

    @Says(promise = 6, value = "Throws `IllegalArgumentException` if there is no such face")
    private static void p06ThrowsIfThereIsNoSuchFace() {
        outOfRange("face", 3, (x, face) -> x.gluedTo(0, face), (x, block, face) -> x.gluedTo(block, face));
    }

    @Says(promise = 6, value = "Throws `NoSuchElementException` if it is open")
    private static void p06ThrowsIfItIsOpen() {
        for (Bench bench : Bench.all()) {
            bench.refuses("an open face", NONE, bench.eachFace(false, (x, b, f) -> x.gluedTo(b, f)));
        }
    }

    @Says(promise = 7, value = "Returns its number.")
    private static void p07ReturnsItsNumber() {
        for (int order = 0; order < 24; order++) {
            int by = order;
            for (int face = 0; face < 4; face++) {
                int from = face;
                due("of a gluing to another block", order, x -> {
                    x.glue(1, from, 0, by);
                    return x.gluedBy(1, from);
                }, loose(2));
            }
        }
        due("the first one", 0, x -> x.gluedBy(0, 0), Bench.sphere().make());
        due("the last one", 23, x -> x.gluedBy(7, 3), Bench.space(8, 7, 3, 7, 23));
        due("the last one back", 23, x -> x.gluedBy(7, 0), Bench.space(8, 7, 3, 7, 23));
    }

    @Says(promise = 7, value = "Throws `IndexOutOfBoundsException` if there is no such block")
    private static void p07ThrowsIfThereIsNoSuchBlock() {
        noBlock((x, block) -> x.gluedBy(block, 0));
    }

    @Says(promise = 7, value = "Throws `IllegalArgumentException` if there is no such face")
    private static void p07ThrowsIfThereIsNoSuchFace() {
        outOfRange("face", 3, (x, face) -> x.gluedBy(0, face), (x, block, face) -> x.gluedBy(block, face));
    }

    @Says(promise = 7, value = "Throws `NoSuchElementException` if it is open")
    private static void p07ThrowsIfItIsOpen() {
        for (Bench bench : Bench.all()) {
            bench.refuses("an open face", NONE, bench.eachFace(false, (x, b, f) -> x.gluedBy(b, f)));
        }
    }

    @Says(promise = 8, value = "Undoes the last change.")
    private static void p08UndoesTheLastChange() {
        for (Bench bench : Bench.all()) {
            int last = bench.blocks - 1;
            bench.answersAlikeUndone("addBlock", x -> x.addBlock());
            for (int k = 0; k < 4; k++) {
                int face = k;
                bench.answersAlikeUndone("glue", x -> x.glue(0, face, last, face < 2 ? 23 : 8));
                bench.answersAlikeUndone("unglue", x -> x.unglue(last, face));
                bench.answersAlikeUndone("two for three", x -> x.twoForThree(0, face));
            }
            for (int k = 0; k < bench.make().edges(); k++) {
                int edge = k;
                bench.answersAlikeUndone("three for two", x -> x.threeForTwo(edge));
            }
            bench.answersAlikeUndone("one for four", x -> x.oneForFour(last));
            for (int k = 0; k < bench.make().corners(); k++) {
                int corner = k;
                bench.answersAlikeUndone("four for one", x -> x.fourForOne(corner));
            }
        }
    }

    @Says(promise = 8, value = "Returns how many blocks there are then.")
    private static void p08ReturnsHowManyBlocksThereAreThen() {
        due("none", 0, x -> x.undo(), loose(1));
        due("7", 7, x -> x.undo(), loose(8));
        due("as many, a gluing undone", 8, x -> x.undo(), Bench.ring().make());
        due("as many, an opening undone", 2, x -> {
            x.unglue(0, 0);
            return x.undo();
        }, Bench.sphere().make());
        due("fewer, two for three undone", 2, x -> {
            x.twoForThree(0, 0);
            return x.undo();
        }, Bench.sphere().make());
        due("fewer, one for four undone", 5, x -> {
            x.oneForFour(4);
            return x.undo();
        }, loose(5));
        due("more, three for two undone", 8, x -> {
            x.threeForTwo(0);
            return x.undo();
        }, Bench.space(8, 0, 2, 1, 1, 1, 2, 2, 1, 2, 2, 0, 1));
        due("more, four for one undone", 8, x -> {
            x.oneForFour(4);
            x.fourForOne(x.cornerOf(4, 0));
            return x.undo();
        }, loose(5));
    }

    @Says(promise = 8, value = "Throws `NoSuchElementException` if there is none")
    private static void p08ThrowsIfThereIsNone() {
        Bench.none().refuses("none", NONE, x -> x.undo(), x -> x.undo());
        Bench.cleared().refuses("none", NONE, x -> x.undo());
        for (int changes = 1; changes <= 20; changes++) {
            int all = changes;
            new Bench(changes + " changes undone", 0, x -> {
                for (int k = 0; k < all; k++) {
                    if (k % 9 < 2) {
                        Bench.answer(y -> y.addBlock(), x);
                    } else if (k % 2 == 0) {
                        x.glue(0, 0, 0, 6);
                    } else {
                        x.unglue(0, 0);
                    }
                }
                for (int k = 0; k < all && k < 8; k++) {
                    x.undo();
                }
            }).refuses("one more", NONE, x -> x.undo(), x -> x.undo());
        }
    }
}

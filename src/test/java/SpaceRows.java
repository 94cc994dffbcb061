/** Promises 9 to 23, row by row. */
final class SpaceRows extends Rows {
    @Says(promise = 9, value = "Returns how many.")
    private static void p09ReturnsHowMany() {
        for (int blocks = 0; blocks <= 8; blocks++) {
            Tetrahedry x = loose(blocks);
            due("loose", blocks, y -> y.parts(), x);
            for (int b = 0; b < blocks; b++) {
                x.glue(b, 0, b, 6);
            }
            due("each glued to itself", blocks, y -> y.parts(), x);
            for (int b = blocks - 1; b > 0; b--) {
                x.glue(b, 2, b - 1, 3);
                due("joined one by one", b, y -> y.parts(), x);
            }
        }
        due("one, joined twice", 1, x -> x.parts(), Bench.sphere().make());
        due("four", 4, x -> x.parts(), Bench.several().make());
    }

    @Says(promise = 10, value = "Returns true if so, also without blocks.")
    private static void p10ReturnsTrueIfSoAlsoWithoutBlocks() {
        due("without blocks", true, x -> x.isAlikeTurned(), new Tetrahedry());
        due("cleared of what was not", true, x -> {
            x.clear();
            return x.isAlikeTurned();
        }, Bench.reversed().make());
        int[] odd = {0, 1, 1, 0, 0, 1, 1, 0, 0, 1, 1, 0, 0, 1, 1, 0, 0, 1, 1, 0, 0, 1, 1, 0};
        for (int order = 0; order < 24; order++) {
            int by = order;
            boolean isOdd = odd[order] == 1;
            for (int face = 0; face < 4; face++) {
                int from = face;
                if (goes(order, face) != face) {
                    due("on itself by " + ORDERS[order], isOdd, x -> {
                        x.glue(7, from, 7, by);
                        return x.isAlikeTurned();
                    }, loose(8));
                }
            }
            due("to another one by " + ORDERS[order], true, x -> {
                x.glue(0, 0, 7, by);
                return x.isAlikeTurned();
            }, loose(8));
            due("twice, by 0123 and " + ORDERS[order], goes(order, 0) == 3 || !isOdd, x -> {
                x.glue(0, 3, 7, 0);
                if (goes(by, 0) != 3) {
                    x.glue(0, 0, 7, by);
                }
                return x.isAlikeTurned();
            }, loose(8));
        }
        due("the last of several parts is not", false, x -> x.isAlikeTurned(), Bench.space(8, 0, 0, 1, 0, 7, 2, 7, 7));
    }

    @Says(promise = 11, value = "Returns -, c, b or i.")
    private static void p11ReturnsKinds() {
        due("without blocks", '-', x -> x.kind(), new Tetrahedry());
        due("all links are s, an edge is reversed", '-', x -> x.kind(), Bench.space(1, 0, 0, 0, 23, 0, 1, 0, 23));
        due("a reversed edge with an open face", '-', x -> x.kind(), Bench.space(1, 0, 2, 0, 7));
        due("no edge is reversed, a link is o", '-', x -> x.kind(),
                Bench.space(2, 0, 0, 1, 1, 0, 1, 1, 4, 0, 2, 0, 13, 1, 1, 1, 8));
        due("links s and o", '-', x -> x.kind(), Bench.space(2, 0, 0, 1, 19, 0, 1, 1, 19, 0, 2, 1, 18, 0, 3, 1, 18));
        due("links t and o", '-', x -> x.kind(),
                Bench.space(3, 0, 0, 2, 17, 0, 1, 1, 19, 0, 2, 2, 10, 0, 3, 2, 5, 1, 1, 1, 11, 1, 2, 2, 13));
        due("a band for a link", '-', x -> x.kind(), Bench.space(1, 0, 0, 0, 8));
        due("all links s", 'c', x -> x.kind(), Bench.space(1, SMALL_SPHERE));
        due("all links s, eight blocks", 'c', x -> x.kind(), Bench.ring().make());
        due("all links d", 'b', x -> x.kind(), loose(8));
        due("links s and d", 'b', x -> x.kind(), Bench.space(2, SMALL_SPHERE));
        due("all links k", 'i', x -> x.kind(), Bench.space(1, 0, 0, 0, 12, 0, 1, 0, 11));
        due("links s and t", 'i', x -> x.kind(), Bench.space(2, 0, 0, 1, 7, 0, 1, 1, 3, 0, 2, 1, 3, 0, 3, 1, 15));
        due("links k and d", 'i', x -> x.kind(), Bench.space(2, 0, 0, 0, 12, 0, 1, 0, 11));
        due("links d and k", 'i', x -> x.kind(), Bench.space(2, 1, 0, 1, 12, 1, 1, 1, 11));
        due("links s, d and k", 'i', x -> x.kind(),
                Bench.space(8, 0, 0, 0, 6, 0, 2, 0, 1, 7, 0, 7, 12, 7, 1, 7, 11));
        due("several parts, the last one with a reversed edge", '-', x -> x.kind(),
                Bench.space(8, 7, 0, 7, 23, 7, 1, 7, 23));
        due("several parts, the last one with a link o", '-', x -> x.kind(), Bench.space(8, 7, 0, 7, 8));
    }

    @Says(promise = 12, value = "Returns the number.")
    private static void p12ReturnsTheNumber() {
        for (int blocks = 0; blocks <= 8; blocks++) {
            due("loose", blocks, x -> x.number(), loose(blocks));
        }
        due("closed", 0, x -> x.number(), Bench.ring().make());
        due("one corner, one edge, 16 faces, 8 blocks", 8, x -> x.number(), Bench.oneEdge().make());
        due("on itself: 2 corners, 4 edges, 3 faces, 1 block", 0, x -> x.number(), Bench.space(1, 0, 0, 0, 7));
        due("one corner, one edge, 2 faces, 1 block", 1, x -> x.number(), Bench.space(1, 0, 0, 0, 12, 0, 1, 0, 11));
    }

    @Says(promise = 13, value = "Returns how many faces are open.")
    private static void p13ReturnsHowManyFacesAreOpen() {
        due("none", 0, x -> x.openFaces(), new Tetrahedry());
        due("all glued", 0, x -> x.openFaces(), Bench.ring().make());
        Tetrahedry x = Bench.ring().make();
        int open = 0;
        for (int b = 0; b < 8; b++) {
            x.unglue(b, 2);
            open += 2;
            due("opened by and by", open, y -> y.openFaces(), x);
        }
        for (int b = 0; b < 8; b++) {
            x.unglue(b, 1);
            open += 2;
            due("opened by and by", open, y -> y.openFaces(), x);
        }
        due("all", 32, y -> y.openFaces(), x);
    }

    @Says(promise = 13, value = "Returns how many.")
    private static void p13ReturnsHowMany() {
        for (int blocks = 0; blocks <= 8; blocks++) {
            due("all are open", 4 * blocks, x -> x.openFaces(), loose(blocks));
        }
        due("but for two of the last block", 30, x -> x.openFaces(), Bench.space(8, 7, 2, 7, 1));
    }

    @Says(promise = 14, value = "Returns how many.")
    private static void p14ReturnsHowMany() {
        for (int blocks = 0; blocks <= 8; blocks++) {
            due("loose", 6 * blocks, x -> x.edges(), loose(blocks));
        }
        due("48 as one", 1, x -> x.edges(), Bench.oneEdge().make());
        due("after clear", 0, x -> x.clear() - 8 + x.edges(), Bench.oneEdge().make());
        due("in the last block", 46, x -> x.edges(), Bench.space(8, 7, 0, 7, 6));
    }

    @Says(promise = 15, value = "Returns the edge.")
    private static void p15ReturnsTheEdge() {
        for (int at = 0; at < 48; at++) {
            int block = at / 6;
            int edge = at % 6;
            due("loose", at, x -> x.edgeOf(block, edge), loose(8));
            due("48 as one", 0, x -> x.edgeOf(block, edge), Bench.oneEdge().make());
        }
    }

    @Says(promise = 15, value = "Throws `IndexOutOfBoundsException` if there is no such block")
    private static void p15ThrowsIfThereIsNoSuchBlock() {
        noBlock((x, block) -> x.edgeOf(block, 0));
    }

    @Says(promise = 15, value = "Throws `IllegalArgumentException` if there is no such edge of it")
    private static void p15ThrowsIfThereIsNoSuchEdgeOfIt() {
        outOfRange("edge", 5, (x, edge) -> x.edgeOf(0, edge), (x, block, edge) -> x.edgeOf(block, edge));
    }

    @Says(promise = 16, value = "Returns the degree.")
    private static void p16ReturnsTheDegree() {
        for (int at = 0; at < 48; at++) {
            int edge = at;
            due("least", 1, x -> x.edgeDegree(edge), loose(8));
        }
        due("most", 48, x -> x.edgeDegree(0), Bench.oneEdge().make());
        due("of an edge that is glued to itself all around", 1, x -> x.edgeDegree(0), Bench.folded().make());
        due("of the last edge", 1, x -> x.edgeDegree(2), Bench.space(1, SMALL_SPHERE));
        due("of the one between", 4, x -> x.edgeDegree(1), Bench.space(1, SMALL_SPHERE));
        due("round a ring", 8, x -> x.edgeDegree(0), Bench.ring().make());
    }

    @Says(promise = 16, value = "Throws `IndexOutOfBoundsException` if there is no such edge")
    private static void p16ThrowsIfThereIsNoSuchEdge() {
        noEdge((x, edge) -> x.edgeDegree(edge));
    }

    @Says(promise = 17, value = "Returns true if so.")
    private static void p17ReturnsTrueIfSo() {
        Tetrahedry x = Bench.space(8, 0, 0, 0, 7, 7, 0, 7, 7);
        int edges = x.edges();
        due("edges", 44, y -> y.edges(), x);
        for (int k = 0; k < edges; k++) {
            int edge = k;
            boolean is = k == x.edgeOf(0, 5) || k == x.edgeOf(7, 5);
            due("edge " + k, is, y -> y.isReversed(edge), x);
        }
        due("the last edge", 43, y -> y.edgeOf(7, 5), x);
        due("48 as one", false, y -> y.isReversed(0), Bench.oneEdge().make());
    }

    @Says(promise = 17, value = "Throws `IndexOutOfBoundsException` if there is no such edge")
    private static void p17ThrowsIfThereIsNoSuchEdge() {
        noEdge((x, edge) -> x.isReversed(edge));
    }

    @Says(promise = 18, value = "Returns true if so.")
    private static void p18ReturnsTrueIfSo() {
        Tetrahedry x = Bench.space(8, 0, 0, 0, 6, 7, 2, 7, 1);
        int edges = x.edges();
        for (int k = 0; k < edges; k++) {
            int edge = k;
            boolean is = k == x.edgeOf(0, 5) || k == x.edgeOf(7, 0);
            due("edge " + k, is, y -> y.isInner(edge), x);
        }
        due("48 as one", true, y -> y.isInner(0), Bench.oneEdge().make());
        for (int edge = 0; edge < 48; edge++) {
            int at = edge;
            due("loose", false, y -> y.isInner(at), loose(8));
        }
    }

    @Says(promise = 18, value = "Throws `IndexOutOfBoundsException` if there is no such edge")
    private static void p18ThrowsIfThereIsNoSuchEdge() {
        noEdge((x, edge) -> x.isInner(edge));
    }

    @Says(promise = 19, value = "Returns how many.")
    private static void p19ReturnsHowMany() {
        for (int blocks = 0; blocks <= 8; blocks++) {
            due("loose", 4 * blocks, x -> x.corners(), loose(blocks));
        }
        due("32 as one", 1, x -> x.corners(), Bench.oneEdge().make());
        due("after clear", 0, x -> x.clear() - 8 + x.corners(), Bench.oneEdge().make());
        due("in the last block", 31, x -> x.corners(), Bench.space(8, 7, 0, 7, 6));
    }

    @Says(promise = 20, value = "Returns the corner.")
    private static void p20ReturnsTheCorner() {
        for (int at = 0; at < 32; at++) {
            int block = at / 4;
            int corner = at % 4;
            due("loose", at, x -> x.cornerOf(block, corner), loose(8));
            due("32 as one", 0, x -> x.cornerOf(block, corner), Bench.oneEdge().make());
        }
    }

    @Says(promise = 20, value = "Throws `IndexOutOfBoundsException` if there is no such block")
    private static void p20ThrowsIfThereIsNoSuchBlock() {
        noBlock((x, block) -> x.cornerOf(block, 0));
    }

    @Says(promise = 20, value = "Throws `IllegalArgumentException` if there is no such corner of it")
    private static void p20ThrowsIfThereIsNoSuchCornerOfIt() {
        outOfRange("corner", 3, (x, corner) -> x.cornerOf(0, corner), (x, block, corner) -> x.cornerOf(block, corner));
    }

    @Says(promise = 21, value = "Returns the degree.")
    private static void p21ReturnsTheDegree() {
        for (int at = 0; at < 32; at++) {
            int corner = at;
            due("least", 1, x -> x.cornerDegree(corner), loose(8));
        }
        due("most", 32, x -> x.cornerDegree(0), Bench.oneEdge().make());
        due("of the first one", 1, x -> x.cornerDegree(0), Bench.space(2, 0, 0, 1, 0));
        due("of the last one", 1, x -> x.cornerDegree(4), Bench.space(2, 0, 0, 1, 0));
        due("of one between", 2, x -> x.cornerDegree(3), Bench.space(2, 0, 0, 1, 0));
    }

    @Says(promise = 21, value = "Throws `IndexOutOfBoundsException` if there is no such corner")
    private static void p21ThrowsIfThereIsNoSuchCorner() {
        noCorner((x, corner) -> x.cornerDegree(corner));
    }

    @Says(promise = 22, value = "Returns the number.")
    private static void p22ReturnsTheNumber() {
        due("32 triangles, 48 sides, 2 points", -14, x -> x.linkNumber(0), Bench.oneEdge().make());
        due("a sphere", 2, x -> x.linkNumber(1), Bench.space(1, SMALL_SPHERE));
        for (int at = 0; at < 32; at++) {
            int corner = at;
            due("a triangle", 1, x -> x.linkNumber(corner), loose(8));
        }
        due("a band", 0, x -> x.linkNumber(x.cornerOf(0, 3)), Bench.space(1, 0, 0, 0, 8));
        // of the 8 triangles of the figure eight's torus 6 sides are open then, 3 for each of both faces
        due("a torus that is open", -1, x -> x.unglue(0, 1) - 1 + x.linkNumber(0),
                Bench.space(2, 0, 0, 1, 0, 0, 1, 1, 8, 0, 2, 1, 7, 0, 3, 1, 19));
    }

    @Says(promise = 22, value = "Throws `IndexOutOfBoundsException` if there is no such corner")
    private static void p22ThrowsIfThereIsNoSuchCorner() {
        noCorner((x, corner) -> x.linkNumber(corner));
    }

    @Says(promise = 23, value = "Returns s, t, k, d or o.")
    private static void p23ReturnsLinks() {
        due("no side open, 2", 's', x -> x.link(1), Bench.space(1, SMALL_SPHERE));
        due("no side open, 1", 'o', x -> x.link(1), Bench.reversed().make());
        due("no side open, 0, turned", 't', x -> x.link(0),
                Bench.space(2, 0, 0, 0, 22, 0, 1, 1, 10, 0, 2, 1, 17, 1, 0, 1, 14));
        due("no side open, 0, not turned", 'k', x -> x.link(0), Bench.space(1, 0, 0, 0, 12, 0, 1, 0, 11));
        due("no side open, -1", 'o', x -> x.link(0), Bench.space(1, 0, 0, 0, 13, 0, 1, 0, 4));
        due("no side open, -2", 'o', x -> x.link(0),
                Bench.space(2, 0, 0, 1, 1, 0, 1, 1, 4, 0, 2, 0, 13, 1, 1, 1, 8));
        due("no side open, -14", 'o', x -> x.link(0), Bench.oneEdge().make());
        for (int at = 0; at < 32; at++) {
            int corner = at;
            due("open, 1", 'd', x -> x.link(corner), loose(8));
        }
        due("open, 0", 'o', x -> x.link(x.cornerOf(0, 3)), Bench.space(1, 0, 0, 0, 8));
        Tetrahedry x = Bench.space(2, 0, 0, 1, 0, 0, 1, 1, 8, 0, 2, 1, 7, 0, 3, 1, 19);
        due("no side open, 0", 't', y -> y.link(0), x);
        x.unglue(0, 1);
        due("open, -1", 'o', y -> y.link(0), x);
    }

    @Says(promise = 23, value = "Throws `IndexOutOfBoundsException` if there is no such corner")
    private static void p23ThrowsIfThereIsNoSuchCorner() {
        noCorner((x, corner) -> x.link(corner));
    }
}

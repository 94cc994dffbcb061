import java.util.ArrayList;
import java.util.List;

/** What stands before the promises, of calls, blocks, edges, corners, links and codes. */
final class TermRows extends Rows {
    @Says("An object is used for at most 512 calls after it has been made; what later calls answer is free.")
    private static void a512Calls() {
        Tetrahedry x = new Tetrahedry();
        due("call 1", 0, y -> y.addBlock(), x);
        for (int k = 2; k <= 512; k++) {
            boolean glue = k % 2 == 0;
            due("call " + k, glue ? 3 : 0, y -> glue ? y.glue(0, 0, 0, 23) : y.unglue(0, 3), x);
        }
        Tetrahedry z = Bench.space(5, SMALL_SPHERE);
        int[] due = {5, 8, 7, 8, 5, 6, 5, 8};
        for (int k = 7; k < 512; k++) {
            int turn = k % 8;
            due("call " + (k + 1), due[turn], y -> thereAndBack(y, turn), z);
        }
    }

    /** From five blocks, the first a small sphere, the others loose, back to as many in eight calls. */
    private static int thereAndBack(Tetrahedry x, int turn) {
        switch (turn) {
            case 7: return x.oneForFour(4);
            case 0: return x.fourForOne(14);
            case 1: return x.oneForFour(0);
            case 2: return x.threeForTwo(24);
            case 5: return x.addBlock() + 1;
            default: return x.undo();
        }
    }

    @Says("Two gluings that are joined by moves answer alike to what is of the space, and names never change a result.")
    private static void a1MovesAndNames() {
        Lcg lcg = new Lcg(5);
        for (Bench bench : List.of(Bench.loose(1), Bench.folded(), Bench.reversed(), Bench.sphere(), Bench.several(),
                Bench.ring(), Bench.oneEdge())) {
            List<Object> due = ofTheSpace(bench.make());
            for (int k = 0; k < 5; k++) {
                Tetrahedry other = PromiseTest.renamed(bench.make(), bench.blocks, lcg);
                due("by other names, " + bench.name, due, x -> ofTheSpace(x), other);
                due("as many edges and corners", bench.make().edges() * 100 + bench.make().corners(),
                        x -> x.edges() * 100 + x.corners(), other);
                due("ways of flat angles", bench.make().countFlat(), x -> x.countFlat(), other);
            }
            if (bench.blocks <= 5) {
                due("joined by a move, " + bench.name, due, x -> {
                    x.oneForFour(bench.blocks - 1);
                    return ofTheSpace(x);
                }, bench.make());
            }
        }
    }

    private static List<Object> ofTheSpace(Tetrahedry x) {
        List<Object> all = new ArrayList<>(List.of(x.parts(), x.isAlikeTurned(), x.kind(), x.number(), x.openFaces(),
                x.holes(), x.twists()));
        for (int k = 0; k < x.twists(); k++) {
            all.add(x.twistAt(k));
        }
        return all;
    }

    // -- blocks

    @Says("At most 8 blocks, tetrahedra, are numbered from 0.")
    private static void b01AtMost8NumberedFrom0() {
        Tetrahedry x = new Tetrahedry();
        for (int k = 0; k < 8; k++) {
            int number = k;
            due("not there yet", "throws " + INDEX.getName(), y -> Bench.answer(z -> z.edgeOf(number, 0), y), x);
            due("comes", k, y -> y.addBlock(), x);
            due("is there", 6 * k, y -> y.edgeOf(number, 0), x);
        }
        Bench.full().refuses("a ninth", STATE, y -> y.addBlock());
        Bench.full().refuses("the number 8", INDEX, y -> y.edgeOf(8, 0), y -> y.glue(8, 0, 0, 0),
                y -> y.glue(0, 0, 8, 0), y -> y.oneForFour(8), y -> y.setPieces(8, 0, 0));
        Bench.full().refuses("the number -1", INDEX, y -> y.edgeOf(-1, 0), y -> y.glue(-1, 0, 0, 0),
                y -> y.glue(0, 0, -1, 0), y -> y.oneForFour(-1), y -> y.setPieces(-1, 0, 0));
    }

    @Says("A block has the corners 0 to 3, its face k being that without the corner k, and six edges, 0 to 5, which are"
            + " those of the corners 01, 02, 03, 12, 13 and 23.")
    private static void b02CornersFacesEdges() {
        String[] ends = {"01", "02", "03", "12", "13", "23"};
        for (int face = 0; face < 4; face++) {
            // by 0123, so that of the corners and edges just those of the face lie on the like ones of the other block
            Tetrahedry x = Bench.space(2, 0, face, 1, 0);
            for (int k = 0; k < 4; k++) {
                int corner = k;
                due("corner " + k + " in face " + face, k != face, y -> y.cornerOf(0, corner) == y.cornerOf(1, corner),
                        x);
            }
            for (int k = 0; k < 6; k++) {
                int edge = k;
                due("edge " + ends[k] + " in face " + face, ends[k].indexOf('0' + face) < 0,
                        y -> y.edgeOf(0, edge) == y.edgeOf(1, edge), x);
            }
        }
        Bench.loose(1).refuses("no corner, no face, no edge", ARGUMENT, x -> x.cornerOf(0, -1), x -> x.cornerOf(0, 4),
                x -> x.gluedTo(0, -1), x -> x.gluedTo(0, 4), x -> x.edgeOf(0, -1), x -> x.edgeOf(0, 6));
    }

    @Says("An order is one of the 24 ways to write 0, 1, 2, 3 one behind the other, numbered from 0 as they rise as"
            + " numbers of four digits:")
    private static void b03OrdersRise() {
        int before = -1;
        for (int order = 0; order < 24; order++) {
            int number = 0;
            for (int face = 0; face < 4; face++) {
                number = number * 10 + loose(2).glue(0, face, 1, order);
            }
            Check.tell("order " + order + " rises", true, number > before);
            Check.tell("order " + order, Integer.parseInt(ORDERS[order]), number);
            before = number;
        }
    }

    @Says("0123 is the order 0, 3210 the order 23.")
    private static void b04FirstAndLastOrder() {
        for (int k = 0; k < 4; k++) {
            int face = k;
            due("0123", k, x -> x.glue(0, face, 1, 0), loose(2));
            due("3210", 3 - k, x -> x.glue(0, face, 1, 23), loose(2));
        }
        Bench.loose(2).refuses("there is no order 24, no order -1", ARGUMENT, x -> x.glue(0, 0, 1, 24),
                x -> x.glue(0, 0, 1, -1));
    }

    @Says("By a gluing of a face with an order, the corner k of the block goes to the k-th number of the order as a"
            + " corner of another block, or of the same one;")
    private static void b05CornersGoToAnotherBlockOrTheSame() {
        for (int order = 0; order < 24; order++) {
            for (int face = 0; face < 4; face++) {
                for (int k = 0; k < 4; k++) {
                    int from = k;
                    int to = goes(order, k);
                    due("of another block", k != face, x -> x.cornerOf(0, from) == x.cornerOf(7, to),
                            Bench.space(8, 0, face, 7, order));
                    if (k != face && goes(order, face) != face) {
                        due("of the same block", true, x -> x.cornerOf(7, from) == x.cornerOf(7, to),
                                Bench.space(8, 7, face, 7, order));
                    }
                }
            }
        }
    }

    @Says("the face thereby goes to the one without the corner to which its own number goes.")
    private static void b06TheFaceGoesToTheOneWithout() {
        for (int order = 0; order < 24; order++) {
            for (int face = 0; face < 4; face++) {
                Tetrahedry x = Bench.space(2, 0, face, 1, order);
                for (int k = 0; k < 4; k++) {
                    Check.tell("face " + k + " by " + ORDERS[order], k == goes(order, face), Bench.isGlued(x, 1, k));
                }
            }
        }
    }

    @Says("A face is glued to one other face at most, or open; both sides tell the same gluing.")
    private static void b07BothSidesTellTheSameGluing() {
        for (int order = 0; order < 24; order++) {
            for (int face = 0; face < 4; face++) {
                sidesAgree(6, face, order);
                if (goes(order, face) != face) {
                    sidesAgree(0, face, order);
                }
            }
        }
        Bench.glued("glued once", 3, 0, 0, 1, 0).refuses("glued twice", UNSUPPORTED, x -> x.glue(0, 0, 2, 0),
                x -> x.glue(1, 0, 2, 0), x -> x.glue(2, 0, 0, 0), x -> x.glue(2, 0, 1, 0), x -> x.glue(0, 0, 1, 0));
    }

    private static void sidesAgree(int block, int face, int order) {
        Tetrahedry x = Bench.space(7, block, face, 0, order);
        int across = goes(order, face);
        due("the block there", 0, y -> y.gluedTo(block, face), x);
        due("the order there", order, y -> y.gluedBy(block, face), x);
        due("the block back", block, y -> y.gluedTo(0, across), x);
        for (int k = 0; k < 4; k++) {
            int corner = k;
            due("there and back, corner " + k, k, y -> goes(y.gluedBy(0, across), goes(order, corner)), x);
        }
        due("no other faces", 26, y -> y.openFaces(), x);
    }

    @Says("What hangs together by glued faces is a part.")
    private static void b08PartsHangTogether() {
        due("none", 0, x -> x.parts(), new Tetrahedry());
        due("not glued", 8, x -> x.parts(), loose(8));
        due("glued to itself", 8, x -> x.parts(), Bench.space(8, 0, 0, 0, 6, 7, 2, 7, 1));
        due("two chains of four, by turns", 2, x -> x.parts(),
                Bench.space(8, 6, 0, 0, 0, 0, 1, 4, 1, 4, 2, 2, 0, 7, 0, 3, 0, 3, 1, 1, 1, 5, 3, 7, 5));
        due("all but the last one", 2, x -> x.parts(), Bench.space(8, 0, 0, 6, 0, 1, 0, 6, 6, 2, 0, 6, 13, 3, 0, 6, 19,
                4, 1, 2, 0, 5, 1, 3, 0));
        due("all in a ring", 1, x -> x.parts(), Bench.ring().make());
        due("a ring without one face", 1, x -> x.unglue(7, 2) + x.parts(), Bench.ring().make());
        due("a ring without two faces", 2, x -> x.unglue(7, 2) + x.unglue(3, 2) - 4 + x.parts(), Bench.ring().make());
    }

    // -- edges and corners

    @Says("Edges that lie on each other by gluings are one edge, corners likewise; they are numbered by the lowest"
            + " block, then by the lowest edge, or corner, of it that is in them.")
    private static void c01NumberedByTheLowestBlockThenEdge() {
        // by 3210: the edges 12, 13 and 23 of the first block lie on 12, 02 and 01 of the last one
        Tetrahedry x = Bench.space(8, 7, 3, 0, 23);
        int[] edges = {5, 4, 42, 3, 43, 44};
        int[] corners = {3, 2, 1, 28};
        for (int k = 0; k < 6; k++) {
            int edge = k;
            due("first block, edge " + k, k, y -> y.edgeOf(0, edge), x);
            due("last block, edge " + k, edges[k], y -> y.edgeOf(7, edge), x);
        }
        for (int k = 0; k < 4; k++) {
            int corner = k;
            due("first block, corner " + k, k, y -> y.cornerOf(0, corner), x);
            due("last block, corner " + k, corners[k], y -> y.cornerOf(7, corner), x);
        }
        Tetrahedry same = Bench.folded().make();
        int[] foldedEdges = {0, 1, 2, 1, 2, 3};
        int[] foldedCorners = {0, 0, 1, 2};
        for (int k = 0; k < 6; k++) {
            int edge = k;
            due("on itself, edge " + k, foldedEdges[k], y -> y.edgeOf(0, edge), same);
        }
        for (int k = 0; k < 4; k++) {
            int corner = k;
            due("on itself, corner " + k, foldedCorners[k], y -> y.cornerOf(0, corner), same);
        }
    }

    @Says("The degree is how many of those of blocks they are.")
    private static void c02Degrees() {
        for (Bench bench : Bench.all()) {
            int[] edges = new int[48];
            int[] corners = new int[32];
            Tetrahedry x = bench.make();
            for (int b = 0; b < bench.blocks; b++) {
                for (int k = 0; k < 6; k++) {
                    edges[x.edgeOf(b, k)]++;
                }
                for (int k = 0; k < 4; k++) {
                    corners[x.cornerOf(b, k)]++;
                }
            }
            for (int k = 0; k < x.edges(); k++) {
                int edge = k;
                due("edge " + k + " of " + bench.name, edges[k], y -> y.edgeDegree(edge), x);
            }
            for (int k = 0; k < x.corners(); k++) {
                int corner = k;
                due("corner " + k + " of " + bench.name, corners[k], y -> y.cornerDegree(corner), x);
            }
        }
    }

    /** Blocks in a ring round their edges 01; the last gluing is by the order told. */
    private static Tetrahedry round(int blocks, int last) {
        Tetrahedry x = loose(8);
        for (int b = 0; b < blocks; b++) {
            x.glue(b, 2, (b + 1) % blocks, b == blocks - 1 ? last : 1);
        }
        return x;
    }

    @Says("An edge is reversed if it lies on itself the other way round;")
    private static void c03Reversed() {
        for (int blocks = 1; blocks <= 8; blocks++) {
            due("0 on 0 and 1 on 1, round " + blocks, false, x -> x.isReversed(0), round(blocks, 1));
            due("0 on 1 and 1 on 0, round " + blocks, true, x -> x.isReversed(0), round(blocks, 7));
            due("twice so, round " + blocks, false, x -> {
                x.unglue(0, 2);
                x.glue(0, 2, 1, 7);
                return x.isReversed(0);
            }, blocks == 1 ? round(2, 7) : round(blocks, 7));
        }
        due("both ends on a third corner", false, x -> x.isReversed(x.edgeOf(0, 1)), Bench.space(1, SMALL_SPHERE));
        due("no face is glued", false, x -> x.isReversed(47), loose(8));
    }

    @Says("it is inner if none of its faces in its blocks is open.")
    private static void c04Inner() {
        for (int blocks = 1; blocks <= 8; blocks++) {
            due("round " + blocks, true, x -> x.isInner(0), round(blocks, 1));
            due("reversed, round " + blocks, true, x -> x.isInner(0), round(blocks, 7));
            for (int open = 0; open < blocks; open++) {
                int b = open;
                due("a face of " + blocks + " open", false, x -> {
                    x.unglue(b, 2);
                    return x.isInner(0);
                }, round(blocks, 1));
            }
        }
        due("all other faces open", false, x -> x.isInner(x.edgeOf(0, 5)), round(8, 1));
        due("faces open that are not its own", true, x -> x.unglue(7, 0) == 7 && x.isInner(0), Bench.ring().make());
    }

    // -- links: what there is of closed ones, each by its number, and of open ones

    private static final char[] LINKS = {'s', 'o', 't', 'k', 'o', 'o', 'o', 'd', 'o', 'o'};
    private static final int[] NUMBERS = {2, 1, 0, 0, -1, -2, -14, 1, 0, -1};
    private static final int CLOSED = 7;

    private static final int[][] LINKED = {SMALL_SPHERE, {0, 0, 0, 7, 0, 2, 0, 1},
        {0, 0, 0, 22, 0, 1, 1, 10, 0, 2, 1, 17, 1, 0, 1, 14}, {0, 0, 0, 12, 0, 1, 0, 11}, {0, 0, 0, 13, 0, 1, 0, 4},
        {0, 0, 1, 1, 0, 1, 1, 4, 0, 2, 0, 13, 1, 1, 1, 8}, Bench.ONE_EDGE, {}, {0, 0, 0, 8},
        {0, 0, 1, 0, 0, 2, 1, 7, 0, 3, 1, 19}};

    private static Tetrahedry linked(int k) {
        return linked(k, 0);
    }

    /** The last corner has the link; so many loose blocks are before. */
    private static Tetrahedry linked(int k, int before) {
        int blocks = 1;
        int[] rows = LINKED[k].clone();
        for (int at = 0; at < rows.length; at += 2) {
            blocks = Math.max(blocks, rows[at] + 1);
            rows[at] += before;
        }
        return Bench.space(before + blocks, rows);
    }

    private static int linkedCorner(Tetrahedry x) {
        return x.corners() - 1;
    }

    private static void linksAre(char link) {
        int found = 0;
        for (int k = 0; k < LINKS.length; k++) {
            String name = (k < CLOSED ? "closed, " : "open, ") + NUMBERS[k];
            for (int before = 0; before < (LINKED[k] == Bench.ONE_EDGE ? 1 : 7); before++) {
                due(name, LINKS[k] == link, y -> y.link(linkedCorner(y)) == link, linked(k, before));
            }
            found += LINKS[k] == link ? 1 : 0;
        }
        Check.tell("links of " + link, true, found > 0);
    }

    @Says("its number is points less sides and triangles added.")
    private static void d01LinkNumbers() {
        for (int k = 0; k < LINKS.length; k++) {
            due("the link " + k, NUMBERS[k], y -> y.linkNumber(linkedCorner(y)), linked(k));
        }
    }

    @Says("A link is 's' if no side is open and the number is 2;")
    private static void d02Spheres() {
        linksAre('s');
    }

    @Says("'t' and 'k' if no side is open and the number is 0, 't' if its triangles can be turned so that all joined"
            + " ones go alike, 'k' if not;")
    private static void d03ToriAndKleinBottles() {
        linksAre('t');
        linksAre('k');
    }

    @Says("'d' if a side is open and the number is 1;")
    private static void d04Discs() {
        linksAre('d');
    }

    @Says("'o' otherwise.")
    private static void d05Others() {
        linksAre('o');
    }

    // -- kinds, signs, the number

    @Says("The kind of the space is '-' without blocks, if an edge is reversed, or if a link is 'o';")
    private static void e01KindOfNone() {
        due("without blocks", '-', x -> x.kind(), new Tetrahedry());
        due("cleared", '-', x -> x.clear() == 8 ? x.kind() : ' ', Bench.ring().make());
        due("with one", 'b', x -> x.addBlock() == 0 ? x.kind() : ' ', new Tetrahedry());
        due("an edge is reversed, all links are s", '-', x -> x.kind(), Bench.space(1, 0, 0, 0, 23, 0, 1, 0, 23));
        due("of 48 edges the last ones", '-', x -> x.kind(), Bench.space(8, 7, 0, 7, 23, 7, 1, 7, 23));
        for (int k = 0; k < LINKS.length; k++) {
            due("the link " + k, LINKS[k] == 'o', x -> x.kind() == '-', linked(k));
        }
    }

    @Says("otherwise 'c' if all links are 's', 'b' if all are 's' or 'd', 'i' if not.")
    private static void e02KindOthers() {
        due("s", 'c', x -> x.kind(), Bench.ring().make());
        due("s in two parts", 'c', x -> x.kind(), Bench.space(2, 0, 0, 0, 6, 0, 2, 0, 1, 1, 0, 1, 6, 1, 2, 1, 1));
        due("d", 'b', x -> x.kind(), loose(1));
        due("s, d", 'b', x -> x.kind(), Bench.space(2, SMALL_SPHERE));
        due("d, s", 'b', x -> x.kind(), Bench.space(2, 1, 0, 1, 6, 1, 2, 1, 1));
        due("k", 'i', x -> x.kind(), linked(3));
        due("t", 'i', x -> x.kind(), linked(2));
        due("k, d", 'i', x -> x.kind(), Bench.space(2, 0, 0, 0, 12, 0, 1, 0, 11));
        due("d, k", 'i', x -> x.kind(), Bench.space(2, 1, 0, 1, 12, 1, 1, 1, 11));
        due("s, k", 'i', x -> x.kind(), Bench.space(2, 0, 0, 0, 6, 0, 2, 0, 1, 1, 0, 1, 12, 1, 1, 1, 11));
    }

    @Says("The space is turned alike if each block can get a sign so that of each gluing the two signs are like ones by"
            + " an odd order, unlike ones by an even one;")
    private static void e03Signs() {
        for (int blocks = 1; blocks <= 8; blocks++) {
            for (int even = 0; even <= blocks; even++) {
                // 0132 is odd, 1032 even
                Tetrahedry x = loose(8);
                for (int b = 0; b < blocks; b++) {
                    x.glue(b, 2, (b + 1) % blocks, b < even ? 7 : 1);
                }
                due(even + " even ones in a ring of " + blocks, even % 2 == 0, y -> y.isAlikeTurned(), x);
                if (blocks < 8) {
                    x.glue(7, 0, 7, 6);
                    due("and a part that is turned alike", even % 2 == 0, y -> y.isAlikeTurned(), x);
                    x.unglue(7, 0);
                    x.glue(7, 0, 7, 7);
                    due("and a part that is not", false, y -> y.isAlikeTurned(), x);
                }
            }
        }
    }

    @Says("The number of the space is corners less edges, faces added, glued ones being one, less blocks.")
    private static void e04Number() {
        for (Bench bench : Bench.all()) {
            Tetrahedry x = bench.make();
            int faces = x.openFaces() + (4 * bench.blocks - x.openFaces()) / 2;
            due(bench.name, x.corners() - x.edges() + faces - bench.blocks, y -> y.number(), x);
        }
    }

    // -- codes

    @Says("an open one is written as 0; one that leads to a block without a new number as 1, and that block gets the next"
            + " number, each of its corners the name of that which goes to it; any other one as 2, the new number of the"
            + " block, and the number of the order by names.")
    private static void f01CodesTellTheSpace() {
        for (Bench bench : Bench.all()) {
            Tetrahedry x = bench.make();
            if (x.parts() == 1) {
                List<Integer> code = PromiseTest.code(x);
                int[] row = new int[code.size()];
                for (int k = 0; k < row.length; k++) {
                    row[k] = code.get(k);
                }
                Tetrahedry y = PromiseTest.fromCode(bench.blocks, row);
                Check.tell("by the code of " + bench.name, code, PromiseTest.code(y));
                Check.tell("the space of " + bench.name, ofTheSpace(x), ofTheSpace(y));
            }
        }
    }

    @Says("The code is the least row of all, by the first number that is unlike.")
    private static void f02CodesAreLeast() {
        Lcg lcg = new Lcg(11);
        for (Bench bench : Bench.all()) {
            for (int k = 0; k < 20 && bench.make().parts() == 1; k++) {
                Tetrahedry x = bench.make();
                due("other names of " + bench.name, PromiseTest.code(x), y -> PromiseTest.code(y),
                        PromiseTest.renamed(x, bench.blocks, lcg));
            }
        }
        due("open ones come first", List.of(0, 0, 2, 0, 1, 2, 0, 1), x -> PromiseTest.code(x),
                Bench.folded().make());
        due("then new ones", List.of(0, 0, 0, 1, 0, 0, 0, 2, 0, 0), x -> PromiseTest.code(x),
                Bench.space(2, 0, 0, 1, 0));
    }

    @Says("It is told of a space of one part alone.")
    private static void f03CodesOfOnePartAlone() {
        Tetrahedry x = new Tetrahedry();
        for (int blocks = 0; blocks <= 8; blocks++) {
            String due = blocks == 1 ? "4" : "throws " + UNSUPPORTED.getName();
            due(blocks + " parts, length", due, y -> Bench.answer(z -> z.codeLength(), y), x);
            due(blocks + " parts, at", blocks == 1 ? "0" : due, y -> Bench.answer(z -> z.codeAt(0), y), x);
            due(blocks + " parts, keep", due, y -> Bench.answer(z -> z.keepCode(0), y), x);
            due(blocks + " parts, kept", blocks == 0 || blocks > 1 ? due : "true",
                    y -> Bench.answer(z -> z.isKept(0), y), x);
            Bench.answer(y -> y.addBlock(), x);
        }
        for (int blocks = 8; blocks > 1; blocks--) {
            x.glue(blocks - 1, 1, blocks - 2, 6);
        }
        due("joined as one", 7 + 21 + 18, y -> y.codeLength(), x);
    }

    @Says("At most 3 codes are kept, also as all blocks are taken away.")
    private static void f04KeptCodes() {
        Tetrahedry x = loose(1);
        x.keepCode(0);
        x.glue(0, 0, 0, 6);
        x.keepCode(1);
        x.glue(0, 2, 0, 1);
        x.keepCode(2);
        String none = "throws " + NONE.getName();
        List<String> due = List.of("true", "false", "false", "false", "true", "false", "false", "false", "true",
                "false", "false", "false");
        Bench bench = new Bench("three codes", 1, y -> {
            y.addBlock();
            y.keepCode(0);
            y.glue(0, 0, 0, 6);
            y.keepCode(1);
            y.glue(0, 2, 0, 1);
            y.keepCode(2);
        });
        due("all three stay as blocks go", due, y -> Bench.keptCodes(y), x);
        bench.refuses("a fourth", ARGUMENT, y -> y.keepCode(3), y -> y.keepCode(-1), y -> y.isKept(3),
                y -> y.isKept(-1));
        Tetrahedry z = bench.make();
        for (int k = 0; k < 3; k++) {
            z.undo();
        }
        due("and as changes are undone", due, y -> Bench.keptCodes(y), z);
        due("none at first", List.of(none, none, none), y -> List.of(Bench.answer(w -> w.isKept(0), y),
                Bench.answer(w -> w.isKept(1), y), Bench.answer(w -> w.isKept(2), y)), loose(1));
        due("none of another object", none, y -> Bench.answer(w -> w.isKept(0), y), loose(1));
    }
}

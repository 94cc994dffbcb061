import java.util.ArrayList;
import java.util.List;

/** What stands before the promises of the meaning of words, where it names which one, the first or the lowest. */
final class MeaningRows extends Rows {
    // -- links

    @Says("The link of a corner is what a small cut around it is: a triangle for each corner of a block in it, joined"
            + " as the faces are glued.")
    private static void a1ATriangleForEachCornerOfABlock() {
        for (int ring = 1; ring <= 8; ring++) {
            for (int last : new int[] {1, 7}) {
                Tetrahedry x = loose(8);
                for (int b = 0; b < ring; b++) {
                    due("in a row, " + b, b == 0 ? 1 : b + 1, y -> y.cornerDegree(0), x);
                    due("a row is a disc", 'd', y -> y.link(0), x);
                    if (b < ring - 1) {
                        x.glue(b, 2, b + 1, 1);
                    }
                }
                x.glue(ring - 1, 2, 0, last);
                // the other way round, both ends are one corner, and the triangles at both go round one point
                due("in a ring of " + ring, last == 7 ? 2 * ring : ring, y -> y.cornerDegree(0), x);
                due("a ring is a disc", 'd', y -> y.link(0), x);
                due("a ring's number", 1, y -> y.linkNumber(0), x);
            }
        }
    }

    @Says("Its points are the ends of edges there, classed as those lie on each other, its sides those of triangles,"
            + " joined ones being one;")
    private static void a2PointsAndSides() {
        for (Bench bench : Bench.all()) {
            int corners = bench.make().corners();
            for (int k = 0; k < corners; k++) {
                int corner = k;
                Tetrahedry x = bench.make();
                int number = pointsAt(bench.make(), k, bench.blocks) - sidesAt(bench.make(), k, bench.blocks)
                        + x.cornerDegree(k);
                due("corner " + k + " of " + bench.name, number, y -> y.linkNumber(corner), x);
            }
        }
        due("both ends of one edge, at one corner", 0, x -> x.linkNumber(0), Bench.space(1, 0, 0, 0, 12, 0, 1, 0, 11));
        due("an edge on itself has one end", 2, x -> x.linkNumber(1), Bench.space(1, 0, 0, 0, 23, 0, 1, 0, 23));
    }

    /** An edge has an end at each of its two corners, but the reversed one has one alone. */
    private static int pointsAt(Tetrahedry x, int corner, int blocks) {
        int[] lows = {0, 0, 0, 1, 1, 2};
        int[] highs = {1, 2, 3, 2, 3, 3};
        boolean[] seen = new boolean[x.edges()];
        int points = 0;
        for (int at = 0; at < 6 * blocks; at++) {
            int edge = x.edgeOf(at / 6, at % 6);
            if (!seen[edge]) {
                seen[edge] = true;
                points += x.cornerOf(at / 6, lows[at % 6]) == corner ? 1 : 0;
                points += !x.isReversed(edge) && x.cornerOf(at / 6, highs[at % 6]) == corner ? 1 : 0;
            }
        }
        return points;
    }

    private static int sidesAt(Tetrahedry x, int corner, int blocks) {
        int twice = 0;
        for (int at = 0; at < 16 * blocks; at++) {
            int block = at / 16;
            int face = at / 4 % 4;
            if (at % 4 != face && x.cornerOf(block, at % 4) == corner) {
                twice += Bench.isGlued(x, block, face) ? 1 : 2;
            }
        }
        return twice / 2;
    }

    // -- signs

    @Says("an order is odd if an odd number of exchanges makes it of 0123.")
    private static void b1OddOrders() {
        Lcg lcg = new Lcg(31);
        for (int tries = 0; tries < 400; tries++) {
            int[] row = {0, 1, 2, 3};
            int exchanges = lcg.below(6);
            for (int k = 0; k < exchanges; k++) {
                int one = lcg.below(4);
                int other = (one + 1 + lcg.below(3)) % 4;
                int kept = row[one];
                row[one] = row[other];
                row[other] = kept;
            }
            int order = Oracle.orderNumber(row);
            // by 0123, which is even, the signs are unlike, and by the other order, too, if it is even
            Tetrahedry x = Bench.space(2, 0, 0, 1, 0);
            int face = row[1] == 0 ? 2 : 1;
            x.glue(0, face, 1, order);
            due(exchanges + " exchanges", exchanges % 2 == 0, y -> y.isAlikeTurned(), x);
        }
    }

    // -- codes

    /** How the code is written from a first block and an order. */
    private static List<Integer> written(List<Integer> gluings, int blocks, int first, int order) {
        List<Integer> row = new ArrayList<>();
        List<Integer> byNumber = new ArrayList<>(List.of(first));
        int[][] cornerByName = new int[blocks][4];
        for (int k = 0; k < 4; k++) {
            cornerByName[first][k] = goes(order, k);
        }
        for (int number = 0; number < byNumber.size(); number++) {
            int block = byNumber.get(number);
            for (int name = 0; name < 4; name++) {
                int glued = gluings.get(4 * block + cornerByName[block][name]);
                if (glued < 0) {
                    row.add(0);
                    continue;
                }
                int other = glued / 24;
                int by = glued % 24;
                if (byNumber.contains(other)) {
                    row.addAll(List.of(2, byNumber.indexOf(other), byNames(cornerByName, block, by, other)));
                } else {
                    row.add(1);
                    byNumber.add(other);
                    for (int k = 0; k < 4; k++) {
                        cornerByName[other][k] = goes(by, cornerByName[block][k]);
                    }
                }
            }
        }
        return row;
    }

    private static int byNames(int[][] cornerByName, int block, int by, int other) {
        int[] to = new int[4];
        for (int k = 0; k < 4; k++) {
            while (cornerByName[other][to[k]] != goes(by, cornerByName[block][k])) {
                to[k]++;
            }
        }
        return Oracle.orderNumber(to);
    }

    private static boolean isLess(List<Integer> one, List<Integer> other) {
        int at = 0;
        while (at < one.size() - 1 && one.get(at).equals(other.get(at))) {
            at++;
        }
        return one.get(at) < other.get(at);
    }

    @Says("From one block as the first and an order, blocks get numbers and corners names: the first block is 0, and its"
            + " corner that is the k-th number of the order gets the name k.")
    private static void c1AnyBlockAndOrderMayBeTheFirst() {
        Lcg lcg = new Lcg(41);
        for (Bench bench : Bench.all()) {
            Tetrahedry start = bench.make();
            for (int tries = 0; tries < 3 && start.parts() == 1; tries++) {
                Tetrahedry x = PromiseTest.renamed(start, bench.blocks, lcg);
                List<Integer> gluings = PromiseTest.gluings(x, bench.blocks);
                List<Integer> least = null;
                for (int k = 0; k < 24 * bench.blocks; k++) {
                    List<Integer> row = written(gluings, bench.blocks, k / 24, k % 24);
                    least = least == null || isLess(row, least) ? row : least;
                }
                due("the least of all on " + bench.name, least, y -> PromiseTest.code(y), x);
            }
        }
    }

    @Says("Then, by new numbers, for each block its faces are gone through by names, a face having that of the corner"
            + " that it does not have:")
    private static void c2FacesByNames() {
        // three in a row: the open faces of the first one have the least names, its last face leads on
        List<Integer> row = List.of(0, 0, 0, 1, 0, 0, 1, 2, 0, 0, 0, 0, 2, 1, 0, 0);
        for (int by = 0; by < 24; by++) {
            for (int face = 0; face < 4; face++) {
                int on = (goes(by, face) + 1) % 4;
                due("three in a row", row, x -> PromiseTest.code(x), Bench.space(3, 0, face, 2, by, 2, on, 1, 23 - by));
                due("three in a row", row, x -> PromiseTest.code(x), Bench.space(3, 2, face, 0, by, 0, on, 1, by));
            }
        }
        // 1203 is 0231 by the names of 1, 3, 2, 0: one corner of both faces stays, the others go on in a ring
        for (int by : new int[] {8, 12}) {
            due("on itself, a corner stays", List.of(0, 0, 2, 0, 3, 2, 0, 4), x -> PromiseTest.code(x),
                    Bench.space(1, 0, 0, 0, by));
        }
        due("on itself, the edge turned", List.of(0, 0, 2, 0, 7, 2, 0, 7), x -> PromiseTest.code(x),
                Bench.space(1, 0, 0, 0, 7));
    }

    // -- names after moves

    private static int find(String[] blocks, String letters) {
        int at = 0;
        while (!Letters.without(letters, blocks[at]).isEmpty()) {
            at++;
        }
        return at;
    }

    /** The blocks that stay, in their order, and behind them the new ones, glued as their letters tell. */
    private static void comes(String what, String[] before, List<String> gone, Tetrahedry x, String... come) {
        List<String> all = new ArrayList<>();
        for (String block : before) {
            if (!gone.contains(block)) {
                all.add(block);
            }
        }
        all.addAll(List.of(come));
        String[] due = all.toArray(new String[0]);
        String told = what + " of " + String.join(" ", before);
        due(told, PromiseTest.gluings(Letters.glued(due), due.length), y -> PromiseTest.gluings(y, due.length), x);
    }

    @Says("of its corners in rising order of the block told, there is a new block without the first, without the second,"
            + " without the third; the corner 0 of it is that of the block told that is not in the face, 1 that of the"
            + " other block, 2 and 3 those of the face that it has, rising.")
    private static void d1NamesAfterTwoForThree() {
        String[][] all = {{"XABC", "YABC"}, {"XABC", "YABC", "XABM"}, {"XABC", "YABC", "YACM", "XBCN"},
            {"XABC", "YABC", "XABM", "XBCN", "XACO", "YABR", "YBCS"}};
        Lcg lcg = new Lcg(51);
        for (int tries = 0; tries < 400; tries++) {
            String[] blocks = Letters.mixed(all[tries % all.length], lcg);
            Tetrahedry x = Letters.glued(blocks);
            String told = blocks[find(blocks, tries % 3 == 0 ? "YABC" : "XABC")];
            String other = blocks[find(blocks, tries % 3 == 0 ? "XABC" : "YABC")];
            String ends = tries % 3 == 0 ? "YX" : "XY";
            String face = Letters.without(told, ends);
            due("two for three", blocks.length + 1,
                    y -> y.twoForThree(find(blocks, told), told.indexOf(ends.charAt(0))), x);
            comes("two for three", blocks, List.of(told, other), x, ends + face.substring(1),
                    ends + face.charAt(0) + face.charAt(2), ends + face.substring(0, 2));
        }
    }

    /** What three for two makes of blocks round the edge PQ. */
    private static void threeForTwo(String[] start, Lcg lcg) {
        String[] blocks = Letters.mixed(start, lcg);
        Tetrahedry x = Letters.glued(blocks);
        List<String> gone = List.of(blocks[find(blocks, "PQAB")], blocks[find(blocks, "PQBC")],
                blocks[find(blocks, "PQAC")]);
        int lowest = find(blocks, "PQ");
        String low = blocks[lowest];
        String ends = Letters.without(low, "ABC");
        String others = Letters.without(low, "PQ");
        String ring = others + Letters.without("ABC", others);
        int edge = x.edgeOf(lowest, Letters.edge(low, 'P', 'Q'));
        due("three for two", blocks.length - 1, y -> y.threeForTwo(edge), x);
        comes("three for two", blocks, gone, x, ends.charAt(0) + ring, ends.charAt(1) + ring);
    }

    @Says("from its lowest block, with its corners there in rising order, the other two corners are told as 1, the lower"
            + " one, and 2, and the third one, that neither is, as 3;")
    private static void d2CornersAfterThreeForTwo() {
        Lcg lcg = new Lcg(61);
        for (int tries = 0; tries < 200; tries++) {
            threeForTwo(new String[] {"PQAB", "PQBC", "PQAC", "PABM", "PBCN", "PACO", "QABR", "QBCS"}, lcg);
            threeForTwo(new String[] {"QACM", "PQAB", "PQBC", "PQAC", "PBCN"}, lcg);
        }
    }

    @Says("two new blocks have as their corner 0 the first end of the edge, and the second.")
    private static void d3EndsAfterThreeForTwo() {
        Lcg lcg = new Lcg(71);
        for (int tries = 0; tries < 200; tries++) {
            threeForTwo(new String[] {"PQAB", "PQBC", "PQAC", "PABM"}, lcg);
            threeForTwo(new String[] {"PQAB", "PQBC", "PQAC", "QABM"}, lcg);
        }
    }

    @Says("four new blocks, of which the k-th has that point in place of its corner k.")
    private static void d4NamesAfterOneForFour() {
        Lcg lcg = new Lcg(81);
        for (int tries = 0; tries < 200; tries++) {
            String[] blocks = Letters.mixed(new String[] {"ABCD", "ABCM", "ABDN", "ACDO", "BCDR"}, lcg);
            Tetrahedry x = Letters.glued(blocks);
            int block = find(blocks, "ABCD");
            String gone = blocks[block];
            due("one for four", 8, y -> y.oneForFour(block), x);
            comes("one for four", blocks, List.of(gone), x, "Z" + gone.substring(1),
                    gone.charAt(0) + "Z" + gone.substring(2), gone.substring(0, 2) + "Z" + gone.charAt(3),
                    gone.substring(0, 3) + "Z");
        }
    }

    @Says("the new block has the names of the lowest of these, the corner that goes becoming the fourth outer one.")
    private static void d5NamesAfterFourForOne() {
        Lcg lcg = new Lcg(91);
        for (int tries = 0; tries < 400; tries++) {
            String[] blocks = Letters.mixed(new String[] {"ZABC", "ZABD", "ZACD", "ZBCD", "ABCM", "ABDN", "ACDO",
                "BCDR"}, lcg);
            Tetrahedry x = Letters.glued(blocks);
            List<String> gone = new ArrayList<>();
            for (String block : blocks) {
                if (block.indexOf('Z') >= 0) {
                    gone.add(block);
                }
            }
            String low = gone.get(0);
            int corner = x.cornerOf(find(blocks, "Z"), low.indexOf('Z'));
            due("four for one", 5, y -> y.fourForOne(corner), x);
            comes("four for one", blocks, gone, x, low.replace("Z", Letters.without("ABCD", low)));
        }
    }

    // -- groups

    @Says("One goes round an inner edge from its lowest block, through the face without the lower one of the two corners"
            + " that are not in the edge there, on through the next face at that edge each time,")
    private static void e1RoundAnEdge() {
        // two blocks by four faces: the pair 0 is in the tree, 1 to 3 are generators; one goes there and back
        int[][] due = {{2, -3}, {1, -3}, {1, -2}, {-3}, {-2}, {-1}};
        for (int by = 0; by < 24; by++) {
            for (int low = 0; low < 7; low += 6) {
                Tetrahedry x = loose(8);
                for (int face = 3; face >= 0; face--) {
                    x.glue(low, face, low + 1, by);
                }
                for (int k = 0; k < 6; k++) {
                    relatorIs(x, x.edgeOf(low, k), due[k]);
                }
            }
        }
        // three round PQ: the pairs of the block 0 are in the tree, that of both others is the generator
        Lcg lcg = new Lcg(95);
        for (int tries = 0; tries < 200; tries++) {
            String[] blocks = Letters.mixed(new String[] {"PQAB", "PQBC", "PQAC"}, lcg);
            String others = Letters.without(blocks[0], "PQ");
            boolean toBlock1 = blocks[1].indexOf(others.charAt(1)) >= 0;
            Tetrahedry three = Letters.glued(blocks);
            relatorIs(three, three.edgeOf(0, Letters.edge(blocks[0], 'P', 'Q')), toBlock1 ? 1 : -1);
        }
    }

    private static void relatorIs(Tetrahedry x, int edge, int... due) {
        due("length", due.length, y -> y.relatorLength(edge), x);
        for (int k = 0; k < due.length; k++) {
            int at = k;
            due("number " + k, due[k], y -> y.relatorAt(edge, at), x);
        }
    }

    @Says("Holes and twists are those of the group in which generators may change places:")
    private static void e2GeneratorsMayChangePlaces() {
        // of the eight quaternions, four are left
        Tetrahedry x = PromiseTest.fromCode(2, 1, 2, 1, 16, 2, 1, 23, 2, 1, 7, 2, 0, 0, 2, 0, 23, 2, 0, 7, 2, 0, 16);
        due("holes", 0, y -> y.holes(), x);
        due("twists", 2, y -> y.twists(), x);
        due("the first", 2L, y -> y.twistAt(0), x);
        due("the second", 2L, y -> y.twistAt(1), x);
        // the relators -1 -2 1 2 alone tells nothing then
        Tetrahedry ring = Bench.space(1, SMALL_SPHERE);
        due("its relator", 4, y -> y.relatorLength(1), ring);
        due("no hole, as 1 and 2 are relators", 0, y -> y.holes(), ring);
    }

    // -- angles and pieces

    @Says("By flat angles each block has one of the three pairs of edges that do not meet, 01 and 23, 02 and 13, 03 and"
            + " 12, as half turns, its other angles being 0;")
    private static void f1ThreePairs() {
        // the second block goes round one edge of the first, the third one round another: both are half turns there
        String[] edges = {"AB", "AC", "AD", "BC", "BD", "CD"};
        for (int one = 0; one < 6; one++) {
            for (int other = 0; other < 6; other++) {
                boolean meet = one == other || one + other != 5;
                if (!meet) {
                    Tetrahedry x = loose(3);
                    glueRound(x, 0, one, 1);
                    glueRound(x, 0, other, 2);
                    due("round " + edges[one] + " and " + edges[other], 1, y -> y.countFlat(), x);
                }
            }
            Tetrahedry x = loose(2);
            glueRound(x, 0, one, 1);
            due("round " + edges[one], 1, y -> y.countFlat(), x);
        }
        for (int pair = 0; pair < 3; pair++) {
            for (int other = 0; other < 3; other++) {
                Tetrahedry x = loose(4);
                glueRound(x, 0, pair, 1);
                glueRound(x, 2, other, 3);
                due("in two parts, one way in each", 1, y -> y.countFlat(), x);
            }
        }
        due("no edge is inner: each of three", 3, x -> x.countFlat(), loose(1));
    }

    /** Glues both faces at an edge of a block to those of another one, by 0123. */
    private static void glueRound(Tetrahedry x, int block, int edge, int other) {
        int[] lows = {0, 0, 0, 1, 1, 2};
        int[] highs = {1, 2, 3, 2, 3, 3};
        for (int face = 0; face < 4; face++) {
            if (face != lows[edge] && face != highs[edge]) {
                x.glue(block, face, other, 0);
            }
        }
    }

    /** Which corner of a face the arc of a piece of a kind cuts off; -1 if it has none there. */
    private static int arc(int kind, int face) {
        int[][] byQuads = {{1, 0, 3, 2}, {2, 3, 0, 1}, {3, 2, 1, 0}};
        if (kind < 4) {
            return kind == face ? -1 : kind;
        }
        return byQuads[kind - 4][face];
    }

    @Says("Pieces in a block are triangles, of the kinds 0 to 3, which cut the corner off, and quads of the kinds 4, 5"
            + " and 6, which part 01 from 23, 02 from 13 and 03 from 12;")
    private static void f2KindsOfPieces() {
        for (int kind = 0; kind < 7; kind++) {
            // by four faces, as many edges are cut by both: a sphere of two triangles, or of two quads
            Tetrahedry x = Bench.sphere().make();
            Bench.pieces(x);
            x.setPieces(0, kind, 1);
            x.setPieces(1, kind, 1);
            due("kind " + kind, 2, y -> y.surfaceNumber(), x);
        }
        // both faces at an edge are glued, all edges but the one that does not meet it lie on each other
        int[][] cuts = {{0, 1, 2}, {0, 3, 4}, {1, 3, 5}, {2, 4, 5}, {1, 2, 3, 4}, {0, 2, 3, 5}, {0, 1, 4, 5}};
        for (int at = 0; at < 42; at++) {
            int kind = at / 6;
            int edge = at % 6;
            Tetrahedry x = loose(8);
            glueRound(x, 7, edge, 2);
            x.setPieces(7, kind, 1);
            x.setPieces(2, kind, 1);
            int number = 2;
            for (int cut : cuts[kind]) {
                number -= cut == 5 - edge ? 0 : 1;
            }
            for (int face = 0; face < 4; face++) {
                number += Bench.isGlued(x, 7, face) && arc(kind, face) >= 0 ? 1 : 0;
            }
            due("kind " + kind + " round the edge " + edge, number, y -> y.surfaceNumber(), x);
        }
    }

    @Says("On a face they are arcs, each cutting one corner of it off:")
    private static void f3ArcsOfTriangles() {
        arcsAre(0, 4);
    }

    @Says("those of the triangles of this corner, and of the quads that leave it with the corner that is not in the face.")
    private static void f4ArcsOfQuads() {
        arcsAre(4, 7);
        // as many arcs of triangles and quads as of triangles alone
        Tetrahedry x = Bench.space(2, 0, 0, 1, 0);
        x.setPieces(0, 1, 40);
        x.setPieces(0, 4, 59);
        x.setPieces(1, 1, 98);
        due("99 and 98", false, y -> y.isMatched(), x);
        x.setPieces(1, 1, 99);
        due("99 and 99", true, y -> y.isMatched(), x);
        x.setPieces(0, 1, 99);
        x.setPieces(0, 4, 99);
        due("198 and 99", false, y -> y.isMatched(), x);
        x.setPieces(1, 4, 99);
        due("198 and 198", true, y -> y.isMatched(), x);
    }

    /** Pieces of kinds from the first one told to that before the last, matched by those that have the same arc. */
    private static void arcsAre(int first, int end) {
        for (int kind = first; kind < end; kind++) {
            for (int face = 0; face < 4; face++) {
                for (int other = 0; other < 7; other++) {
                    Tetrahedry x = Bench.space(2, 0, face, 1, 0);
                    x.setPieces(0, kind, 7);
                    x.setPieces(1, other, 7);
                    due("kinds " + kind + " and " + other + " on the face " + face,
                            arc(kind, face) == arc(other, face), y -> y.isMatched(), x);
                }
            }
        }
    }
}

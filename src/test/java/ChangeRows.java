import java.util.ArrayList;
import java.util.Collections;
import java.util.List;

/** What stands before the promises, of moves, what is undone, groups, angles, surfaces and exceptions. */
final class ChangeRows extends Rows {
    /** Blocks that can be told from each other: each is glued to itself by an order of its own, 6 to 11. */
    private static Tetrahedry marked(int blocks, int... unmarked) {
        Tetrahedry x = loose(blocks);
        for (int b = 0, mark = 6; b < blocks; b++) {
            boolean free = false;
            for (int u : unmarked) {
                free |= u == b;
            }
            if (!free) {
                x.glue(b, 0, b, mark++);
            }
        }
        return x;
    }

    /** The marks of blocks, 0 for a block that is not glued to itself by its face 0. */
    private static List<Integer> marks(Tetrahedry x, int blocks) {
        List<Integer> all = new ArrayList<>();
        for (int b = 0; b < blocks; b++) {
            boolean self = Bench.isGlued(x, b, 0) && x.gluedTo(b, 0) == b;
            all.add(self ? x.gluedBy(b, 0) : 0);
        }
        return all;
    }

    // -- moves

    @Says("A move takes blocks away and puts others in their place, glued to whatever those were glued to;")
    private static void g01GluedToWhateverThoseWereGluedTo() {
        // all outer faces lead to one another, or to the block that stays, or are open
        Lcg lcg = new Lcg(3);
        for (int k = 0; k < 200; k++) {
            Tetrahedry x = loose(5);
            Oracle oracle = new Oracle();
            for (int b = 0; b < 5; b++) {
                oracle.addBlock();
            }
            x.glue(0, 0, 1, 0);
            oracle.glue(0, 0, 1, 0);
            for (int tries = 0; tries < 30; tries++) {
                int[] row = {lcg.below(3), lcg.below(4), lcg.below(3), lcg.below(24)};
                if (!Bench.answer(y -> y.glue(row[0], row[1], row[2], row[3]), x).startsWith("throws")) {
                    oracle.glue(row[0], row[1], row[2], row[3]);
                }
            }
            moveAlike("two for three", x, oracle, y -> y.twoForThree(1, 0), oracle.twoForThree(1, 0));
            int edge = oracle.edgeOf(3, 0);
            moveAlike("three for two", x, oracle, y -> y.threeForTwo(edge), oracle.threeForTwo(edge));
            for (int undone = 0; undone < 2; undone++) {
                oracle.undo();
                x.undo();
            }
            moveAlike("one for four", x, oracle, y -> y.oneForFour(0), oracle.oneForFour(0));
            int point = oracle.cornerOf(5, 1);
            moveAlike("four for one", x, oracle, y -> y.fourForOne(point), oracle.fourForOne(point));
        }
    }

    private static void moveAlike(String what, Tetrahedry x, Oracle oracle, Bench.Call move, int blocks) {
        due(what, blocks, move, x);
        due(what + ", gluings", oracle.checksum(), y -> y.checksum(), x);
    }

    @Says("blocks that stay close up in their order, new ones come behind them;")
    private static void g02BlocksCloseUp() {
        Tetrahedry two = marked(7, 2, 4);
        two.glue(4, 1, 2, 6);
        due("two for three", 8, x -> x.twoForThree(4, 1), two);
        due("two for three, in their order", List.of(6, 7, 8, 9, 10, 0, 0, 0), x -> marks(x, 8), two);
        Tetrahedry three = marked(8, 1, 3, 6);
        three.glue(6, 2, 1, 1);
        three.glue(1, 2, 3, 1);
        three.glue(3, 2, 6, 1);
        due("three for two", 7, x -> x.threeForTwo(x.edgeOf(1, 0)), three);
        due("three for two, in their order", List.of(6, 7, 8, 9, 10, 0, 0), x -> marks(x, 7), three);
        for (int block = 0; block < 5; block++) {
            int split = block;
            Tetrahedry one = marked(5, block);
            due("one for four", 8, x -> x.oneForFour(split), one);
            due("one for four, in their order", List.of(6, 7, 8, 9, 0, 0, 0, 0), x -> marks(x, 8), one);
        }
        Tetrahedry four = loose(8);
        int[] mixed = {5, 1, 6, 2};
        for (int i = 0; i < 4; i++) {
            for (int j = i + 1; j < 4; j++) {
                // as by one for four: the corners of the numbers i and j change places
                int[] to = {0, 1, 2, 3};
                to[i] = j;
                to[j] = i;
                four.glue(mixed[i], j, mixed[j], Oracle.orderNumber(to));
            }
        }
        int mark = 6;
        for (int b : new int[] {0, 3, 4, 7}) {
            four.glue(b, 0, b, mark++);
        }
        due("four for one", 5, x -> x.fourForOne(x.cornerOf(5, 0)), four);
        due("four for one, in their order", List.of(6, 7, 8, 9, 0), x -> marks(x, 5), four);
    }

    @Says("there are at most 8 then.")
    private static void g03AtMost8Then() {
        for (int blocks = 1; blocks <= 8; blocks++) {
            int last = blocks - 1;
            Bench one = Bench.loose(blocks);
            if (blocks + 3 <= 8) {
                due("one for four", blocks + 3, x -> x.oneForFour(last), one.make());
            } else {
                one.refuses("one for four", UNSUPPORTED, x -> x.oneForFour(last));
            }
            if (blocks > 1) {
                Bench two = Bench.glued("a pair", blocks, 0, 1, last, 0);
                if (blocks + 1 <= 8) {
                    due("two for three", blocks + 1, x -> x.twoForThree(0, 1), two.make());
                } else {
                    two.refuses("two for three", UNSUPPORTED, x -> x.twoForThree(0, 1));
                }
            }
        }
        due("8, and three for two", 7, x -> x.threeForTwo(0), Bench.space(8, 0, 2, 1, 1, 1, 2, 2, 1, 2, 2, 0, 1));
        Tetrahedry x = loose(5);
        x.oneForFour(2);
        due("8, and four for one", 5, y -> y.fourForOne(y.cornerOf(4, 0)), x);
    }

    @Says("Two for three: a glued face between two blocks goes:")
    private static void g04TwoForThree() {
        Tetrahedry x = loose(2);
        x.glue(0, 1, 1, 17);
        due("three blocks", 3, y -> y.twoForThree(0, 1), x);
        // without the first, the second, the third of the corners 0, 2, 3: glued at what both have, the ends first
        List<Integer> due = List.of(-1, -1, 24, 48 + 1, -1, -1, 0, 48, -1, -1, 1, 24);
        due("glued to each other", due, y -> PromiseTest.gluings(y, 3), x);
        Bench.loose(2).refuses("an open face", UNSUPPORTED, y -> y.twoForThree(0, 0));
        Bench.folded().refuses("one block", UNSUPPORTED, y -> y.twoForThree(0, 0), y -> y.twoForThree(0, 1));
    }

    @Says("Three for two: an inner edge of the degree 3 that is not reversed, in three blocks, goes:")
    private static void g05ThreeForTwo() {
        for (int degree = 1; degree <= 8; degree++) {
            for (int last : new int[] {1, 7, -1}) {
                int ring = degree;
                Bench bench = new Bench("a ring of " + ring + " by " + last, 8, x -> {
                    Bench.glueAll(x, 8);
                    for (int b = 0; b < ring - 1; b++) {
                        x.glue(b, 2, b + 1, 1);
                    }
                    if (last >= 0) {
                        x.glue(ring - 1, 2, 0, last);
                    }
                });
                if (degree == 3 && last == 1) {
                    due("three round it", 7, x -> x.threeForTwo(0), bench.make());
                } else {
                    bench.refuses("degree " + ring + " by " + last, UNSUPPORTED, x -> x.threeForTwo(0));
                }
            }
        }
        Bench.glued("in one block", 1, 0, 0, 0, 9, 0, 2, 0, 13).refuses("one block", UNSUPPORTED,
                x -> x.threeForTwo(0));
        Bench.glued("in two blocks", 2, 0, 0, 1, 21, 0, 1, 1, 7, 0, 2, 0, 7).refuses("two blocks", UNSUPPORTED,
                x -> x.threeForTwo(0), x -> x.threeForTwo(1), x -> x.threeForTwo(2));
    }

    @Says("One for four: a block gets a point in it: four new blocks, of which the k-th has that point in place of its"
            + " corner k.")
    private static void g06OneForFour() {
        Tetrahedry x = loose(1);
        due("four blocks", 4, y -> y.oneForFour(0), x);
        for (int k = 0; k < 4; k++) {
            int block = k;
            due("the point is one of all", true, y -> y.cornerOf(block, block) == y.cornerOf(0, 0), x);
            due("the outer face", false, y -> Bench.isGlued(y, block, block), x);
            for (int j = 0; j < 4; j++) {
                int other = j;
                if (j != k) {
                    due("the face " + j + " of " + k, j, y -> y.gluedTo(block, other), x);
                }
            }
        }
        due("corners", 5, y -> y.corners(), x);
        due("edges", 10, y -> y.edges(), x);
        due("degree of the point", 4, y -> y.cornerDegree(y.cornerOf(0, 0)), x);
    }

    @Says("Four for one: a corner of the degree 4 in four blocks, each glued to each other one as by one for four,"
            + " whatever names corners have there, goes:")
    private static void g07FourForOne() {
        Lcg lcg = new Lcg(9);
        for (int k = 0; k < 40; k++) {
            Tetrahedry start = Bench.space(4, 1, 0, 3, 5);
            start.oneForFour(2);
            Tetrahedry x = PromiseTest.renamed(start, 7, lcg);
            int goes = 0;
            while (x.cornerDegree(goes) != 4 || x.link(goes) != 's') {
                goes++;
            }
            int corner = goes;
            due("whatever names", 4, y -> y.fourForOne(corner), x);
            due("the space", 3, y -> y.parts(), x);
            due("an edge more or less", 24 - 3, y -> y.edges(), x);
        }
    }

    @Says("Four for one: a corner of the degree 4 in four blocks, each glued to each other one as by one for four,"
            + " whatever names corners have there, goes:")
    private static void g08FourForOneOfAllThatAreGluedEachToEach() {
        Lcg lcg = new Lcg(13);
        int went = 0;
        for (int k = 0; k < 60000; k++) {
            int[] sides = new int[12];
            Tetrahedry x = loose(4);
            int pairs = 0;
            for (int i = 0; i < 4; i++) {
                for (int j = i + 1; j < 4; j++) {
                    pairs += glueAtCorner3(x, i, j, sides, lcg) ? 1 : 0;
                }
            }
            Check.tell("each glued to each", 6, pairs);
            boolean one = x.cornerDegree(x.cornerOf(0, 3)) == 4;
            // of all ways to glue four triangles, each to each, one alone makes a sphere
            boolean goes = one && x.link(x.cornerOf(0, 3)) == 's';
            went += goes ? 1 : 0;
            due("each to each, " + k, goes ? "1" : "throws " + UNSUPPORTED.getName(),
                    y -> Bench.answer(z -> z.fourForOne(z.cornerOf(0, 3)), y), x);
        }
        Check.tell("some go", true, went > 100);
    }

    /** Glues a face at the corner 3 of a block to one of another, as it comes; sides are 1 where they are glued. */
    private static boolean glueAtCorner3(Tetrahedry x, int one, int two, int[] sides, Lcg lcg) {
        int face = lcg.below(3);
        while (sides[3 * one + face] == 1) {
            face = (face + 1) % 3;
        }
        int across = lcg.below(3);
        while (sides[3 * two + across] == 1) {
            across = (across + 1) % 3;
        }
        int order = lcg.below(24);
        while (goes(order, face) != across || goes(order, 3) != 3) {
            order = (order + 1) % 24;
        }
        sides[3 * one + face] = 1;
        sides[3 * two + across] = 1;
        return x.glue(one, face, two, order) == across;
    }

    // -- undo

    private static final String[] CHANGES = {"a block added", "a gluing", "an opening", "two for three",
        "three for two", "one for four", "four for one"};

    /** Three blocks round an edge, a pair, and a point in the middle of four: all changes can be made. */
    private static Tetrahedry ready() {
        Tetrahedry x = loose(1);
        x.oneForFour(0);
        x.addBlock();
        x.glue(4, 0, 0, 0);
        x.setPieces(0, 0, 1);
        return x;
    }

    private static void change(Tetrahedry x, int kind) {
        switch (kind) {
            case 0: x.addBlock(); break;
            case 1: x.glue(4, 1, 4, 11); break;
            case 2: x.unglue(4, 0); break;
            case 3: x.twoForThree(4, 0); break;
            case 4: x.threeForTwo(x.edgeOf(0, 0)); break;
            case 5: x.oneForFour(4); break;
            default: x.fourForOne(x.cornerOf(0, 0)); break;
        }
    }

    @Says("The last 8 changes, blocks that were added, gluings, openings and moves, can be undone, the last one first.")
    private static void h01EachSortIsOneChange() {
        for (int kind = 0; kind < CHANGES.length; kind++) {
            Tetrahedry before = ready();
            Tetrahedry x = ready();
            change(x, kind);
            due(CHANGES[kind] + " changes something", true, y -> y.checksum() != before.checksum(), x);
            due(CHANGES[kind] + " is undone", 5, y -> y.undo(), x);
            due(CHANGES[kind] + ", as it was", before.checksum(), y -> y.checksum(), x);
            due(CHANGES[kind] + ", as could be undone before", Bench.undone(before), y -> Bench.undone(y), x);
        }
    }

    @Says("The last 8 changes, blocks that were added, gluings, openings and moves, can be undone, the last one first.")
    private static void h02The8LastOnes() {
        for (int changes = 0; changes <= 20; changes++) {
            Tetrahedry x = new Tetrahedry();
            List<Object> states = new ArrayList<>();
            int blocks = 0;
            for (int k = 0; k < changes; k++) {
                states.add(x.checksum());
                states.add(blocks);
                if (k % 3 == 0) {
                    blocks = x.addBlock() + 1;
                } else if (k % 3 == 1) {
                    x.glue(blocks - 1, 0, blocks - 1, 6 + k % 6);
                } else {
                    x.unglue(blocks - 1, 0);
                }
            }
            List<Object> due = new ArrayList<>();
            for (int k = changes - 1; k >= 0 && k >= changes - 8; k--) {
                due.add(states.get(2 * k + 1));
                due.add(states.get(2 * k));
            }
            due(changes + " changes", due, y -> Bench.undone(y), x);
        }
    }

    @Says("The last 8 changes, blocks that were added, gluings, openings and moves, can be undone, the last one first.")
    private static void h03UndoneAndChangedByTurns() {
        for (int back = 0; back <= 8; back++) {
            for (int on = 0; on <= 9; on++) {
                Tetrahedry x = loose(1);
                for (int k = 0; k < 11; k++) {
                    step(x, k);
                }
                for (int k = 0; k < back; k++) {
                    x.undo();
                }
                for (int k = 0; k < on; k++) {
                    step(x, 11 - back + k);
                }
                int left = Math.min(8, 8 - back + on);
                List<Object> due = new ArrayList<>();
                Tetrahedry y = loose(1);
                for (int k = 0; k < 11 - back + on; k++) {
                    if (k >= 11 - back + on - left) {
                        due.add(0, y.checksum());
                        due.add(0, 1);
                    }
                    step(y, k);
                }
                due(back + " undone, " + on + " made", due, z -> Bench.undone(z), x);
            }
        }
    }

    /** The step k leaves another gluing than all others up to 20. */
    private static void step(Tetrahedry x, int k) {
        if (k % 2 == 0) {
            x.glue(0, 0, 0, 6 + k / 2);
        } else {
            x.unglue(0, 0);
        }
    }

    @Says("The last 8 changes, blocks that were added, gluings, openings and moves, can be undone, the last one first.")
    private static void h04OthersAreNoChanges() {
        for (Bench bench : Bench.all()) {
            Tetrahedry x = bench.make();
            Bench.answer(y -> y.setPieces(0, 0, 7), x);
            Bench.answer(y -> y.putLink(0), x);
            Bench.answer(y -> y.keepCode(1), x);
            Bench.answer(y -> y.glue(0, 0, 0, 0), x);
            Bench.answer(y -> y.isKept(1), x);
            Bench.answer(y -> y.countThin(), x);
            due(bench.name, Bench.undone(bench.make()), y -> Bench.undone(y), x);
        }
        Tetrahedry x = loose(2);
        x.undo();
        x.undo();
        Check.refused("what was undone does not come back", NONE, () -> x.undo());
        due("clear cannot be undone", List.of(), y -> y.clear() == 8 ? Bench.undone(y) : null, Bench.ring().make());
    }

    // -- groups

    @Says("Glued faces are pairs, numbered by the lower block, then by the lower face.")
    private static void i01PairsByLowerBlockThenFace() {
        // in the order of their numbers: 0 and 1, 1 on itself, 1 and 2, 2 on itself; told the other way about
        Tetrahedry x = Bench.space(3, 2, 0, 2, 6, 2, 3, 1, 1, 1, 0, 1, 6, 1, 3, 0, 18);
        due("generators", 2, y -> y.generators(), x);
        due("1's own pair", 1, y -> y.relatorAt(y.edgeOf(1, 5), 0), x);
        due("2's own pair", 2, y -> y.relatorAt(y.edgeOf(2, 5), 0), x);
        Tetrahedry same = Bench.space(1, 0, 3, 0, 1, 0, 1, 0, 6);
        due("the pair of the faces 0 and 1", 1, y -> Math.abs(y.relatorAt(y.edgeOf(0, 5), 0)), same);
        due("the pair of the faces 2 and 3", 2, y -> Math.abs(y.relatorAt(y.edgeOf(0, 0), 0)), same);
    }

    @Says("A pair is in the tree if, pairs taken by their numbers, it joins two parts that were not joined yet; the others"
            + " are generators, numbered from 1.")
    private static void i02GeneratorsFrom1() {
        for (int ring = 2; ring <= 8; ring++) {
            Tetrahedry x = loose(8);
            for (int b = 0; b < ring; b++) {
                due("a ring of " + ring + ", not closed", 0, y -> y.generators(), x);
                x.glue(b, 2, (b + 1) % ring, 1);
            }
            due("closed", 1, y -> y.generators(), x);
            x.unglue(0, 2);
            due("opened", 0, y -> y.generators(), x);
            x.glue(0, 2, 1 % ring, 1);
            due("closed again", 1, y -> y.generators(), x);
            due("its number", 1, y -> Math.abs(y.relatorAt(0, 0)), x);
            due("all others are in the tree", 1, y -> y.relatorLength(0), x);
        }
        Tetrahedry two = Bench.space(8, 3, 0, 3, 6, 7, 0, 7, 6);
        due("in two parts", 2, x -> x.generators(), two);
        due("the first", 1, x -> Math.abs(x.relatorAt(x.edgeOf(3, 5), 0)), two);
        due("the second", 2, x -> Math.abs(x.relatorAt(x.edgeOf(7, 5), 0)), two);
    }

    @Says("till one is back in that edge of that block, this way round or the other.")
    private static void i03BackInThatEdge() {
        // an edge that lies on itself the other way round is gone round once, not twice
        for (int ring = 1; ring <= 8; ring++) {
            for (int last : new int[] {1, 7}) {
                Tetrahedry x = loose(8);
                for (int b = 0; b < ring; b++) {
                    x.glue(b, 2, (b + 1) % ring, b == ring - 1 ? last : 1);
                    if (b > 0) {
                        x.glue(b, 0, b, 6);
                    }
                }
                due("reversed, " + ring, last == 7, y -> y.isReversed(0), x);
                due("a ring of " + ring + " by " + last, 1, y -> y.relatorLength(0), x);
            }
        }
        Tetrahedry x = Bench.reversed().make();
        due("edges", 3, y -> y.edges(), x);
        due("a reversed edge of one block", 1, y -> y.relatorLength(y.edgeOf(0, 5)), x);
        due("of the degree 4", 4, y -> y.relatorLength(y.edgeOf(0, 1)), x);
    }

    @Says("The relator of the edge has, for each generator gone through, its number, or less it, if it was gone through"
            + " from the other side than that of the lower block, then lower face.")
    private static void i04LessIt() {
        // from the edge 23 one goes through the face 0, the lower one; from 01 through the face 2; both pairs alike
        Tetrahedry low = Bench.space(1, 0, 0, 0, 6, 0, 2, 0, 1);
        due("through the lower face", 1, x -> x.relatorAt(x.edgeOf(0, 5), 0), low);
        due("through the lower face", 2, x -> x.relatorAt(x.edgeOf(0, 0), 0), low);
        int[] round = {-1, -2, 1, 2};
        for (int k = 0; k < 4; k++) {
            int at = k;
            due("both ways, " + k, round[k], x -> x.relatorAt(1, at), low);
        }
        // two blocks by four faces: the pair of the faces 0 is in the tree, from the lower block through 2, back by 3
        Tetrahedry two = Bench.sphere().make();
        due("through 2 of the lower block", 2, x -> x.relatorAt(0, 0), two);
        due("back through 3", -3, x -> x.relatorAt(0, 1), two);
    }

    @Says("holes are how many of infinite order, twists, each above 1, each dividing the next one, those of finite"
            + " order.")
    private static void i05HolesAndTwists() {
        // parts of a hole, of a twist of 4, and of one of 5
        Tetrahedry x = Bench.space(3, 0, 0, 0, 8, 1, 0, 1, 9, 1, 2, 1, 9, 2, 0, 2, 9, 2, 2, 2, 13);
        due("holes", 1, y -> y.holes(), x);
        due("twists", 1, y -> y.twists(), x);
        due("twist", 20L, y -> y.twistAt(0), x);
        for (Bench bench : Bench.all()) {
            Tetrahedry y = bench.make();
            for (int k = 0; k < y.twists(); k++) {
                Check.tell("above 1 on " + bench.name, true, y.twistAt(k) > 1);
                Check.tell("divides the next on " + bench.name, 0L, k == 0 ? 0L : y.twistAt(k) % y.twistAt(k - 1));
            }
        }
        Lcg lcg = new Lcg(23);
        for (int k = 0; k < 300; k++) {
            Tetrahedry y = new Tetrahedry();
            Oracle oracle = new Oracle();
            glueAtRandom(y, oracle, 1 + k % 8, lcg);
            due("holes " + k, oracle.holes(), z -> z.holes(), y);
            due("twists " + k, oracle.twists(), z -> z.twists(), y);
            for (int at = 0; at < oracle.twists(); at++) {
                int index = at;
                due("twist " + k, oracle.twistAt(at), z -> z.twistAt(index), y);
            }
        }
        due("1 is no twist", 0, y -> y.twists(), Bench.sphere().make());
        due("no generators, no holes", 0, y -> y.holes(), new Tetrahedry());
    }

    // -- angles and surfaces

    @Says("around each inner edge there must be two half turns.")
    private static void j01TwoHalfTurns() {
        // of one block 3 ways, if it has no inner edge; of a ring of two, both have the half turn there: one way
        int[] due = {3, 0, 1, 6, 24, 80, 240, 672, 1792};
        for (int ring = 0; ring <= 8; ring++) {
            for (int last : new int[] {1, 7}) {
                Tetrahedry x = loose(Math.max(1, ring));
                for (int b = 0; b < ring; b++) {
                    x.glue(b, 2, (b + 1) % ring, b == ring - 1 ? last : 1);
                }
                due("a ring of " + ring + " by " + last, due[ring], y -> y.countFlat(), x);
            }
        }
        due("no blocks, the one way to have none", 1, x -> x.countFlat(), new Tetrahedry());
    }

    @Says("there are 0 to 99 of each.")
    private static void j02Pieces0To99() {
        for (int kind = 0; kind < 7; kind++) {
            int of = kind;
            Tetrahedry x = loose(8);
            due("none at first", 0, y -> y.setPieces(7, of, 99), x);
            due("99", 99, y -> y.setPieces(7, of, 0), x);
            due("0", 0, y -> y.setPieces(7, of, 0), x);
            Bench.full().refuses("100, -1", ARGUMENT, y -> y.setPieces(7, of, 100), y -> y.setPieces(7, of, -1));
        }
        Bench.full().refuses("by links", UNSUPPORTED, x -> x.putLink(28), x -> x.putLink(31));
    }

    @Says("They match if on each pair of glued faces as many arcs cut off each corner on both sides;")
    private static void j03Match() {
        for (int face = 0; face < 4; face++) {
            for (int kind = 0; kind < 7; kind++) {
                for (int block = 6; block < 8; block++) {
                    Tetrahedry x = Bench.space(8, 6, face, 7, 0);
                    x.setPieces(block, kind, 1);
                    due("one of the kind " + kind, kind == face, y -> y.isMatched(), x);
                }
            }
        }
        // by 0213 on itself: the face 1 goes to 2, the corners 0, 2, 3 to 0, 1, 3
        for (int kind = 0; kind < 7; kind++) {
            Tetrahedry x = Bench.space(1, 0, 1, 0, 2);
            x.setPieces(0, kind, 5);
            due("on one block, kind " + kind, kind == 0 || kind == 3 || kind == 6, y -> y.isMatched(), x);
        }
    }

    @Says("they are single if no block has quads of two kinds.")
    private static void j04Single() {
        for (int has = 0; has < 8; has++) {
            for (int block = 0; block < 8; block += 7) {
                Tetrahedry x = loose(8);
                int kinds = 0;
                for (int k = 0; k < 3; k++) {
                    if ((has >> k & 1) == 1) {
                        x.setPieces(block, 4 + k, 1 + 49 * k);
                        kinds++;
                    }
                }
                due("of kinds " + has, kinds < 2, y -> y.isSingle(), x);
            }
        }
    }

    @Says("The number of a surface is how often edges are cut, each edge taken once, less arcs, those of a pair of faces"
            + " taken once, and pieces added.")
    private static void j05SurfaceNumbers() {
        for (Bench bench : Bench.all()) {
            Tetrahedry x = bench.make();
            boolean reversed = false;
            for (int edge = 0; edge < x.edges(); edge++) {
                reversed |= x.isReversed(edge);
            }
            for (int k = 0; k < x.corners() && !reversed; k++) {
                int corner = k;
                due("a link alone on " + bench.name, x.linkNumber(k), y -> {
                    Bench.pieces(y);
                    y.putLink(corner);
                    return y.surfaceNumber();
                }, bench.make());
            }
        }
        Tetrahedry sphere = Bench.sphere().make();
        Bench.pieces(sphere);
        sphere.setPieces(0, 6, 99);
        sphere.setPieces(1, 6, 99);
        due("99 spheres of two quads", 198, x -> x.surfaceNumber(), sphere);
    }

    /** Pieces of all kinds in all blocks, and what they are. */
    private static List<Integer> putAll(Tetrahedry x, int blocks) {
        List<Integer> all = new ArrayList<>();
        for (int k = 0; k < 7 * blocks; k++) {
            x.setPieces(k / 7, k % 7, 1 + k % 99);
            all.add(1 + k % 99);
        }
        return all;
    }

    @Says("Pieces are none as a move is made, blocks come or go, or something is undone.")
    private static void j06PiecesAreNone() {
        int[] blocks = {6, 5, 5, 6, 4, 8, 2};
        for (int k = 0; k < CHANGES.length; k++) {
            int kind = k;
            Tetrahedry x = ready();
            List<Integer> put = putAll(x, 5);
            change(x, kind);
            boolean stay = kind == 1 || kind == 2;
            due(CHANGES[kind], stay ? put : Collections.nCopies(7 * blocks[kind], 0), y -> Bench.pieces(y), x);
            putAll(x, blocks[kind]);
            x.undo();
            due(CHANGES[kind] + " undone", Collections.nCopies(35, 0), y -> Bench.pieces(y), x);
        }
        Tetrahedry x = loose(8);
        putAll(x, 8);
        x.clear();
        for (int k = 0; k < 8; k++) {
            x.addBlock();
        }
        due("all blocks go", Collections.nCopies(56, 0), y -> Bench.pieces(y), x);
        for (int b = 1; b < 8; b++) {
            Tetrahedry y = loose(b);
            putAll(y, b);
            y.addBlock();
            due("a block comes to " + b, Collections.nCopies(7 * b + 7, 0), z -> Bench.pieces(z), y);
        }
    }

    // -- exceptions

    private static final int[] NUMBERS = {Integer.MIN_VALUE, -1, 0, 1, 2, 3, 4, 5, 6, 7, 8, 11, 23, 24, 32, 48, 99, 100,
        Integer.MAX_VALUE};

    private static List<Bench.Call> callsOf(int blocks) {
        List<Bench.Call> all = new ArrayList<>(List.of(x -> x.addBlock(), x -> x.undo(), x -> x.codeLength(),
                x -> x.surfaceNumber(), x -> x.countThin(), x -> x.gluedShare(), x -> x.meanDegree()));
        for (int number : NUMBERS) {
            all.addAll(List.of(x -> x.edgeDegree(number), x -> x.isReversed(number), x -> x.isInner(number),
                    x -> x.cornerDegree(number), x -> x.linkNumber(number), x -> x.link(number), x -> x.codeAt(number),
                    x -> x.keepCode(number), x -> x.isKept(number)));
            all.addAll(List.of(x -> x.threeForTwo(number), x -> x.oneForFour(number), x -> x.fourForOne(number),
                    x -> x.relatorLength(number), x -> x.twistAt(number), x -> x.putLink(number)));
            for (int second : NUMBERS) {
                all.addAll(List.of(x -> x.unglue(number, second), x -> x.gluedTo(number, second),
                        x -> x.gluedBy(number, second), x -> x.edgeOf(number, second),
                        x -> x.cornerOf(number, second), x -> x.twoForThree(number, second),
                        x -> x.relatorAt(number, second), x -> x.setPieces(number, second, 100),
                        x -> x.setPieces(blocks - 1, number, second)));
            }
        }
        int[] some = {-1, 0, blocks - 1, blocks, Integer.MAX_VALUE};
        for (int block : some) {
            for (int other : some) {
                for (int face : new int[] {-1, 0, 3, 4}) {
                    for (int order : new int[] {-1, 0, 6, 23, 24}) {
                        all.add(x -> x.glue(block, face, other, order));
                    }
                }
            }
        }
        return all;
    }

    @Says("A method that throws an exception changes nothing.")
    private static void k01ChangesNothing() {
        for (Bench bench : Bench.all()) {
            List<Bench.Call> refused = new ArrayList<>();
            for (Bench.Call call : callsOf(bench.blocks)) {
                if (Bench.answer(call, bench.make()).startsWith("throws")) {
                    refused.add(call);
                }
            }
            Check.tell("refused calls on " + bench.name, true, refused.size() > 1000);
            for (int at = 0; at < refused.size(); at += 150) {
                List<Bench.Call> some = refused.subList(at, Math.min(refused.size(), at + 150));
                bench.staysAfter("refused calls from " + at, some.toArray(new Bench.Call[0]));
            }
        }
    }

    @Says("If several exceptions apply, the one that is listed first is thrown.")
    private static void k02TheOneListedFirst() {
        Bench ring = Bench.ring();
        ring.refuses("no such block, and others", INDEX, x -> x.glue(8, 4, 8, 24), x -> x.glue(8, 0, 0, 24),
                x -> x.glue(0, 4, 8, 0), x -> x.glue(0, -1, -1, -1), x -> x.glue(0, 0, 8, 0), x -> x.glue(8, 0, 0, 6),
                x -> x.unglue(8, 4), x -> x.gluedTo(-1, -1), x -> x.gluedBy(8, 4), x -> x.edgeOf(8, 6),
                x -> x.cornerOf(-1, 4), x -> x.twoForThree(8, 4), x -> x.twoForThree(-1, 0), x -> x.oneForFour(8),
                x -> x.oneForFour(-1), x -> x.setPieces(8, 7, 0), x -> x.setPieces(8, 0, 100),
                x -> x.setPieces(-1, -1, -1));
        ring.refuses("no such face or order, and one is glued", ARGUMENT, x -> x.glue(0, 0, 0, 24),
                x -> x.glue(0, 0, 1, -1), x -> x.glue(0, 4, 1, 0));
        ring.refuses("no such face, and there would be nine", ARGUMENT, x -> x.twoForThree(0, 4),
                x -> x.twoForThree(7, -1));
        ring.refuses("no such edge, no index", INDEX, x -> x.relatorAt(-1, -1),
                x -> x.relatorAt(x.edges(), Integer.MAX_VALUE));
        Bench parts = Bench.several();
        parts.refuses("several parts, no index", UNSUPPORTED, x -> x.codeAt(-1), x -> x.codeAt(Integer.MAX_VALUE));
        parts.refuses("no slot, several parts", ARGUMENT, x -> x.keepCode(3), x -> x.keepCode(-1), x -> x.isKept(3),
                x -> x.isKept(-1));
        parts.refuses("several parts, nothing kept", UNSUPPORTED, x -> x.isKept(0), x -> x.isKept(2));
        Bench none = Bench.none();
        none.refuses("no blocks, no face", INDEX, x -> x.glue(0, 4, 0, 24), x -> x.unglue(0, 4), x -> x.gluedTo(0, 4),
                x -> x.gluedBy(0, 4), x -> x.edgeOf(0, 6), x -> x.cornerOf(0, 4), x -> x.twoForThree(0, 4),
                x -> x.setPieces(0, 7, 100), x -> x.relatorAt(0, -1));
        none.refuses("no part, no index, nothing kept", UNSUPPORTED, x -> x.codeAt(-1), x -> x.isKept(0));
        none.refuses("no slot, no part", ARGUMENT, x -> x.keepCode(3), x -> x.isKept(3));
        Bench.loose(1).refuses("no face, it would be open", ARGUMENT, x -> x.unglue(0, 4), x -> x.gluedTo(0, -1),
                x -> x.gluedBy(0, 4), x -> x.twoForThree(0, 4));
        Bench.loose(1).refuses("not inner, no index", UNSUPPORTED, x -> x.relatorAt(0, -1),
                x -> x.relatorAt(5, Integer.MAX_VALUE));
        Bench.loose(1).refuses("no slot, nothing kept", ARGUMENT, x -> x.isKept(3), x -> x.isKept(-1));
        Bench.folded().refuses("no order, the face is glued to the same", ARGUMENT, x -> x.glue(0, 0, 0, 24));
        Bench.folded().refuses("no face, the same block", ARGUMENT, x -> x.twoForThree(0, 4));
    }
}

import java.util.List;
import java.util.NoSuchElementException;

/** What tests of the document's sentences have alike. */
abstract class Rows {
    static final Class<IndexOutOfBoundsException> INDEX = IndexOutOfBoundsException.class;
    static final Class<IllegalArgumentException> ARGUMENT = IllegalArgumentException.class;
    static final Class<UnsupportedOperationException> UNSUPPORTED = UnsupportedOperationException.class;
    static final Class<NoSuchElementException> NONE = NoSuchElementException.class;
    static final Class<IllegalStateException> STATE = IllegalStateException.class;
    static final Class<ArithmeticException> ARITHMETIC = ArithmeticException.class;
    static final String[] ORDERS = {"0123", "0132", "0213", "0231", "0312", "0321", "1023", "1032", "1203",
        "1230", "1302", "1320", "2013", "2031", "2103", "2130", "2301", "2310", "3012", "3021", "3102", "3120",
        "3201", "3210"};
    /** One block with all faces glued: a sphere with the edges 01, 23 and one of all others. */
    static final int[] SMALL_SPHERE = {0, 0, 0, 6, 0, 2, 0, 1};

    static void due(String what, Object want, Bench.Call call, Tetrahedry x) {
        Check.due(what, want, () -> call.on(x));
    }

    static int goes(int order, int k) {
        return ORDERS[order].charAt(k) - '0';
    }

    /** The first order by which a face goes to another one. */
    static int order(int face, int to) {
        int order = 0;
        while (goes(order, face) != to) {
            order++;
        }
        return order;
    }

    static Tetrahedry loose(int blocks) {
        return Bench.space(blocks);
    }

    /** For all benches: no such block, by each number that is none. */
    static void noBlock(Bench.WithNumber call) {
        for (Bench bench : Bench.all()) {
            bench.refuses("no such block", INDEX, Bench.outside(0, bench.blocks - 1, call));
        }
    }

    /** For all benches with blocks: a number that is out of a range, with the first block and with the last one. */
    static void outOfRange(String what, int high, Bench.WithNumber first, Bench.WithFace last) {
        for (Bench bench : Bench.all()) {
            if (bench.blocks > 0) {
                int block = bench.blocks - 1;
                bench.refuses(what, ARGUMENT, Bench.outside(0, high, first));
                bench.refuses(what, ARGUMENT, Bench.outside(0, high, (x, k) -> last.on(x, block, k)));
            }
        }
    }

    static void noEdge(Bench.WithNumber call) {
        for (Bench bench : Bench.all()) {
            bench.refuses("no such edge", INDEX, Bench.outside(0, bench.make().edges() - 1, call));
        }
    }

    static void noCorner(Bench.WithNumber call) {
        for (Bench bench : Bench.all()) {
            bench.refuses("no such corner", INDEX, Bench.outside(0, bench.make().corners() - 1, call));
        }
    }

    static void notOnePart(Bench.WithNumber call) {
        for (int blocks : new int[] {0, 2, 3, 8}) {
            Bench.loose(blocks).refuses("parts", UNSUPPORTED, x -> call.on(x, 0), x -> call.on(x, 2));
        }
        for (Bench bench : List.of(Bench.cleared(), Bench.several(), Bench.full(),
                Bench.glued("eight blocks but one in one part", 8, 0, 0, 1, 0, 1, 1, 2, 1, 2, 3, 3, 5, 3, 0, 4, 0, 4,
                        1, 5, 2, 5, 0, 6, 0))) {
            bench.refuses("parts", UNSUPPORTED, x -> call.on(x, 0), x -> call.on(x, 1));
        }
    }

    /** Blocks, and gluings as they come: the same ones in both. */
    static void glueAtRandom(Tetrahedry x, Oracle oracle, int blocks, Lcg lcg) {
        for (int b = 0; b < blocks; b++) {
            x.addBlock();
            oracle.addBlock();
        }
        for (int tries = lcg.below(30 * blocks); tries > 0; tries--) {
            int[] row = {lcg.below(blocks), lcg.below(4), lcg.below(blocks), lcg.below(24)};
            if (!Bench.answer(y -> y.glue(row[0], row[1], row[2], row[3]), x).startsWith("throws")) {
                oracle.glue(row[0], row[1], row[2], row[3]);
            }
        }
    }
}

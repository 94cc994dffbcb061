import java.util.ArrayList;
import java.util.List;
import java.util.NoSuchElementException;

/** One test for each promise, by its number: ordinary inputs, edges that the document names, wrong inputs. */
public final class PromiseTest {
    private static final Class<IndexOutOfBoundsException> INDEX = IndexOutOfBoundsException.class;
    private static final Class<IllegalArgumentException> ARGUMENT = IllegalArgumentException.class;
    private static final Class<UnsupportedOperationException> UNSUPPORTED = UnsupportedOperationException.class;
    private static final Class<NoSuchElementException> NONE = NoSuchElementException.class;
    private static final Class<ArithmeticException> ARITHMETIC = ArithmeticException.class;

    private static Tetrahedry loose(int blocks) {
        Tetrahedry x = new Tetrahedry();
        for (int k = 0; k < blocks; k++) {
            x.addBlock();
        }
        return x;
    }

    /** Rows of four numbers: block, face, other, order. */
    private static Tetrahedry glued(int blocks, int... rows) {
        Tetrahedry x = loose(blocks);
        for (int k = 0; k < rows.length; k += 4) {
            x.glue(rows[k], rows[k + 1], rows[k + 2], rows[k + 3]);
        }
        return x;
    }

    /** Two blocks, each face glued to the one of the same number: a sphere. */
    private static Tetrahedry sphere() {
        return glued(2, 0, 0, 1, 0, 0, 1, 1, 0, 0, 2, 1, 0, 0, 3, 1, 0);
    }

    /** One block with the faces 0 and 1, and 2 and 3, glued round their common edges: a sphere with two corners. */
    private static Tetrahedry smallSphere() {
        return glued(1, 0, 0, 0, 6, 0, 2, 0, 1);
    }

    /** The space that a code tells, its blocks and corners being named as the code names them. */
    static Tetrahedry fromCode(int blocks, int... row) {
        Tetrahedry x = loose(blocks);
        boolean[] glued = new boolean[4 * blocks];
        int fresh = 1;
        int at = 0;
        for (int k = 0; k < 4 * blocks; k++) {
            int told = row[at++];
            if (told == 1) {
                glued[4 * fresh + x.glue(k / 4, k % 4, fresh, 0)] = true;
                fresh++;
            } else if (told == 2) {
                int other = row[at++];
                int order = row[at++];
                if (!glued[k]) {
                    glued[4 * other + x.glue(k / 4, k % 4, other, order)] = true;
                }
            }
        }
        return x;
    }

    private static Tetrahedry lensOfFour() {
        return fromCode(1, 2, 0, 9, 2, 0, 18, 2, 0, 9, 2, 0, 18);
    }

    /** One block, turned over on itself: its one corner has a Klein bottle for a link. */
    private static Tetrahedry gieseking() {
        return fromCode(1, 2, 0, 8, 2, 0, 12, 2, 0, 3, 2, 0, 4);
    }

    private static Tetrahedry figureEight() {
        return fromCode(2, 1, 2, 1, 8, 2, 1, 7, 2, 1, 19, 2, 0, 0, 2, 0, 11, 2, 0, 12, 2, 0, 7);
    }

    static List<Integer> code(Tetrahedry x) {
        List<Integer> row = new ArrayList<>();
        for (int k = 0; k < x.codeLength(); k++) {
            row.add(x.codeAt(k));
        }
        return row;
    }

    /** All gluings of a bench, as blocks and orders; -1 for an open face. */
    static List<Integer> gluings(Tetrahedry x, int blocks) {
        List<Integer> rows = new ArrayList<>();
        for (int b = 0; b < blocks; b++) {
            for (int f = 0; f < 4; f++) {
                try {
                    rows.add(24 * x.gluedTo(b, f) + x.gluedBy(b, f));
                } catch (NoSuchElementException e) {
                    rows.add(-1);
                }
            }
        }
        return rows;
    }

    private static void examples() {
        Tetrahedry x = new Tetrahedry();
        Check.due("1st example", 0, x::addBlock);
        Check.due("1st example", 1, x::addBlock);
        for (int f = 0; f < 4; f++) {
            int face = f;
            Check.due("1st example glue", face, () -> x.glue(0, face, 1, 0));
        }
        Check.due("1st example", 'c', x::kind);
        Check.due("1st example", 6, x::edges);
        Check.due("1st example", 0, x::number);
        Check.due("1st example", 's', () -> x.link(0));
        Check.due("1st example", 0, x::holes);
        Check.due("1st example", 22, x::codeLength);
        Check.due("1st example", 2, () -> x.codeAt(1));
        Tetrahedry y = new Tetrahedry();
        Check.due("2nd example", 0, y::addBlock);
        Check.due("2nd example", 1, () -> y.glue(0, 0, 0, 6));
        Check.due("2nd example", 0, () -> y.gluedTo(0, 1));
        Check.due("2nd example", 2, y::openFaces);
        Check.due("2nd example", 4, y::edges);
        Check.due("2nd example", true, y::isAlikeTurned);
        Check.due("2nd example", 0.5f, y::gluedShare);
    }

    private static void p01NewObject() {
        Tetrahedry x = new Tetrahedry();
        Check.due("1 parts", 0, x::parts);
        Check.due("1 openFaces", 0, x::openFaces);
        Check.due("1 edges", 0, x::edges);
        Check.due("1 corners", 0, x::corners);
        Check.due("1 clear", 0, x::clear);
        Check.refused("1 undo", NONE, x::undo);
        Check.refused("1 kept", UNSUPPORTED, () -> x.isKept(0));
        x.addBlock();
        Check.refused("1 kept", NONE, () -> x.isKept(0));
    }

    private static void p02AddBlock() {
        Tetrahedry x = new Tetrahedry();
        for (int k = 0; k < 8; k++) {
            int number = k;
            Check.due("2 addBlock", number, x::addBlock);
            Check.due("2 open", 4 * number + 4, x::openFaces);
        }
        x.setPieces(0, 0, 5);
        Check.refused("2 a ninth", IllegalStateException.class, x::addBlock);
        Check.due("2 nothing changed", 5, () -> x.setPieces(0, 0, 0));
        Check.due("2 undo is of the eighth", 7, x::undo);
        x.setPieces(3, 2, 1);
        x.addBlock();
        Check.due("2 no pieces as a block comes", 0, () -> x.setPieces(3, 2, 0));
        Tetrahedry y = loose(1);
        y.glue(0, 0, 0, 6);
        y.clear();
        y.addBlock();
        Check.due("2 open faces in place of glued ones", 4, y::openFaces);
    }

    private static void p03Clear() {
        Tetrahedry x = sphere();
        x.keepCode(1);
        x.setPieces(0, 0, 3);
        Check.due("3 clear", 2, x::clear);
        Check.due("3 none left", 0, x::parts);
        Check.refused("3 nothing to undo", NONE, x::undo);
        Check.due("3 clear again", 0, x::clear);
        x.addBlock();
        Check.due("3 no pieces", 0, () -> x.setPieces(0, 0, 0));
        Check.due("3 codes stay", false, () -> x.isKept(1));
        Check.due("3 undo of what came since", 0, x::undo);
        Check.refused("3 undo stops there", NONE, x::undo);
    }

    private static void p04Glue() {
        Tetrahedry x = loose(2);
        Check.due("4 glue by 0312", 3, () -> x.glue(0, 1, 1, 4));
        Check.due("4 back", 0, () -> x.gluedTo(1, 3));
        Check.due("4 back by 0231", 3, () -> x.gluedBy(1, 3));
        Check.due("4 glue to itself by 3210", 3, () -> x.glue(0, 0, 0, 23));
        Check.refused("4 no block", INDEX, () -> x.glue(2, 0, 0, 0));
        Check.refused("4 no block", INDEX, () -> x.glue(-1, 4, 0, 0));
        Check.refused("4 no other", INDEX, () -> x.glue(0, 4, 2, 24));
        Check.refused("4 no other", INDEX, () -> x.glue(0, 0, -1, 0));
        Check.refused("4 no face", ARGUMENT, () -> x.glue(0, 4, 0, 0));
        Check.refused("4 no face", ARGUMENT, () -> x.glue(0, -1, 0, 0));
        Check.refused("4 no order", ARGUMENT, () -> x.glue(0, 0, 1, 24));
        Check.refused("4 no order", ARGUMENT, () -> x.glue(0, 0, 1, -1));
        Check.refused("4 face is glued", UNSUPPORTED, () -> x.glue(0, 0, 1, 0));
        Check.refused("4 other face is glued", UNSUPPORTED, () -> x.glue(1, 0, 0, 0));
        Check.refused("4 the same face", UNSUPPORTED, () -> x.glue(1, 2, 1, 0));
        Check.due("4 nothing changed", 4, x::openFaces);
        x.setPieces(1, 1, 7);
        x.glue(0, 2, 1, 0);
        Check.due("4 pieces stay", 7, () -> x.setPieces(1, 1, 7));
        Check.due("4 all of it undone", 2, () -> x.undo() + x.undo() + x.undo() - 4);
        Check.due("4 all of it undone", 8, x::openFaces);
    }

    private static void p05Unglue() {
        Tetrahedry x = glued(3, 1, 0, 2, 9, 1, 1, 1, 5);
        x.setPieces(0, 6, 4);
        Check.due("5 unglue from the other side", 1, () -> x.unglue(2, 1));
        Check.due("5 both are open", 10, x::openFaces);
        Check.due("5 unglue of one block", 1, () -> x.unglue(1, 3));
        Check.due("5 both are open", 12, x::openFaces);
        Check.due("5 pieces stay", 4, () -> x.setPieces(0, 6, 4));
        Check.refused("5 open", NONE, () -> x.unglue(1, 0));
        Check.refused("5 no face", ARGUMENT, () -> x.unglue(1, 4));
        Check.refused("5 no face", ARGUMENT, () -> x.unglue(1, -1));
        Check.refused("5 no block", INDEX, () -> x.unglue(3, 4));
        Check.refused("5 no block", INDEX, () -> x.unglue(-1, 0));
        Check.due("5 undone", 3, x::undo);
        Check.due("5 glued again", 1, () -> x.gluedTo(1, 1));
        Check.due("5 pieces go", 0, () -> x.setPieces(0, 6, 0));
    }

    private static void p06GluedTo() {
        Tetrahedry x = glued(3, 0, 0, 2, 0, 1, 0, 1, 8);
        Check.due("6", 2, () -> x.gluedTo(0, 0));
        Check.due("6", 0, () -> x.gluedTo(2, 0));
        Check.due("6", 1, () -> x.gluedTo(1, 0));
        Check.due("6", 1, () -> x.gluedTo(1, 1));
        Check.refused("6 open", NONE, () -> x.gluedTo(2, 1));
        Check.refused("6 no face", ARGUMENT, () -> x.gluedTo(2, 4));
        Check.refused("6 no face", ARGUMENT, () -> x.gluedTo(2, -1));
        Check.refused("6 no block", INDEX, () -> x.gluedTo(3, 4));
        Check.refused("6 no block", INDEX, () -> x.gluedTo(-1, 0));
    }

    private static void p07GluedBy() {
        int[] inverse = {0, 1, 2, 4, 3, 5, 6, 7, 12, 18, 13, 19, 8, 10, 14, 20, 16, 22, 9, 11, 15, 21, 17, 23};
        for (int k = 0; k < 24; k++) {
            int order = k;
            Tetrahedry x = loose(2);
            int face = x.glue(0, 2, 1, order);
            Check.due("7 there", order, () -> x.gluedBy(0, 2));
            Check.due("7 back of " + order, inverse[order], () -> x.gluedBy(1, face));
        }
        Tetrahedry x = loose(1);
        Check.refused("7 open", NONE, () -> x.gluedBy(0, 1));
        Check.refused("7 no face", ARGUMENT, () -> x.gluedBy(0, 4));
        Check.refused("7 no face", ARGUMENT, () -> x.gluedBy(0, -1));
        Check.refused("7 no block", INDEX, () -> x.gluedBy(1, 4));
        Check.refused("7 no block", INDEX, () -> x.gluedBy(-1, 0));
    }

    private static void p08Undo() {
        Tetrahedry x = loose(2);
        List<List<Integer>> states = new ArrayList<>();
        states.add(gluings(x, 2));
        x.glue(0, 0, 1, 0);
        states.add(gluings(x, 2));
        x.glue(0, 1, 0, 8);
        states.add(gluings(x, 2));
        x.unglue(0, 1);
        states.add(gluings(x, 2));
        x.twoForThree(0, 0);
        states.add(gluings(x, 3));
        x.oneForFour(1);
        states.add(gluings(x, 6));
        x.fourForOne(x.cornerOf(2, 0));
        states.add(gluings(x, 3));
        x.threeForTwo(x.edgeOf(0, 0));
        int[] blocks = {2, 2, 2, 2, 3, 6, 3};
        for (int k = 6; k >= 0; k--) {
            int at = k;
            x.setPieces(0, 0, 1);
            Check.due("8 undo", blocks[at], x::undo);
            Check.due("8 as it was", states.get(at), () -> gluings(x, blocks[at]));
            Check.due("8 no pieces", 0, () -> x.setPieces(0, 0, 0));
        }
        Check.due("8 undo of addBlock", 1, x::undo);
        Check.refused("8 the first addBlock is not the last 8th any more", NONE, x::undo);
    }

    private static void p08UndoOfTheLastEight() {
        Tetrahedry x = loose(8);
        Check.due("8 undo", 7, x::undo);
        x.addBlock();
        x.setPieces(1, 1, 1);
        x.putLink(0);
        x.clear();
        x.addBlock();
        x.keepCode(0);
        x.setPieces(0, 0, 3);
        x.putLink(0);
        Check.refused("8 a refused change is none", UNSUPPORTED, () -> x.glue(0, 0, 0, 0));
        Check.due("8 only addBlock is undone", 0, x::undo);
        Check.refused("8 none", NONE, x::undo);
        Tetrahedry y = loose(8);
        for (int k = 7; k >= 0; k--) {
            int left = k;
            Check.due("8 eight times", left, y::undo);
        }
        Check.refused("8 none", NONE, y::undo);
        Tetrahedry z = loose(8);
        z.glue(0, 0, 1, 0);
        for (int k = 8; k >= 1; k--) {
            int left = k;
            Check.due("8 the last eight alone", left, z::undo);
        }
        Check.refused("8 none", NONE, z::undo);
        Check.due("8 one block stays", 1, z::parts);
    }

    private static void p09Parts() {
        Check.due("9 none", 0, new Tetrahedry()::parts);
        Check.due("9 loose", 5, loose(5)::parts);
        Tetrahedry x = glued(5, 0, 0, 3, 0, 4, 1, 4, 8, 1, 2, 3, 0);
        Check.due("9 glued", 3, x::parts);
        x.unglue(3, 0);
        Check.due("9 parted", 4, x::parts);
    }

    private static void p10IsAlikeTurned() {
        Check.due("10 none", true, new Tetrahedry()::isAlikeTurned);
        Check.due("10 loose", true, loose(3)::isAlikeTurned);
        Check.due("10 odd on itself", true, glued(1, 0, 0, 0, 6)::isAlikeTurned);
        Check.due("10 even on itself", false, glued(1, 0, 0, 0, 7)::isAlikeTurned);
        Check.due("10 even between two", true, sphere()::isAlikeTurned);
        Check.due("10 even and odd between two", false, glued(2, 0, 0, 1, 0, 0, 1, 1, 1)::isAlikeTurned);
        Check.due("10 even round three", false, glued(3, 0, 0, 1, 0, 1, 1, 2, 0, 2, 2, 0, 0)::isAlikeTurned);
        Check.due("10 two even, one odd round three", true,
                glued(3, 0, 0, 1, 0, 1, 1, 2, 0, 2, 2, 0, 1)::isAlikeTurned);
        Check.due("10 in another part", false, glued(3, 0, 0, 1, 0, 2, 0, 2, 7)::isAlikeTurned);
        Check.due("10 Gieseking", false, gieseking()::isAlikeTurned);
        Check.due("10 figure eight", true, figureEight()::isAlikeTurned);
    }

    private static void p11Kind() {
        Check.due("11 none", '-', new Tetrahedry()::kind);
        Check.due("11 loose", 'b', loose(2)::kind);
        Check.due("11 sphere", 'c', sphere()::kind);
        Check.due("11 lens", 'c', lensOfFour()::kind);
        Check.due("11 Gieseking", 'i', gieseking()::kind);
        Check.due("11 figure eight", 'i', figureEight()::kind);
        Check.due("11 a reversed edge", '-', glued(1, 0, 0, 0, 7)::kind);
        Check.due("11 the first edge reversed", '-', glued(1, 0, 2, 0, 7)::kind);
        Check.due("11 a link that is a band", '-', glued(1, 0, 0, 0, 8)::kind);
        Tetrahedry x = fromCode(2, 2, 0, 8, 2, 0, 12, 2, 0, 3, 2, 0, 4, 0, 0, 0, 0);
        Check.due("11 k and d", 'i', x::kind);
        x.glue(1, 0, 1, 7);
        Check.due("11 k and a reversed edge", '-', x::kind);
        Tetrahedry y = glued(3, 0, 0, 0, 6, 0, 2, 0, 1);
        Check.due("11 s and d", 'b', y::kind);
        y.addBlock();
        y.glue(3, 0, 3, 8);
        Check.due("11 s, d and o", '-', y::kind);
    }

    private static void p12Number() {
        Check.due("12 none", 0, new Tetrahedry()::number);
        Check.due("12 a ball", 1, loose(1)::number);
        Check.due("12 three balls", 3, loose(3)::number);
        Check.due("12 sphere", 0, sphere()::number);
        Check.due("12 two balls as one", 1, glued(2, 0, 1, 1, 9)::number);
        Check.due("12 a torus for a corner", 2 - 1 - 1 + 1, figureEight()::number);
        Check.due("12 a Klein bottle for a corner", 1, gieseking()::number);
        Tetrahedry x = glued(1, 0, 0, 0, 7);
        Check.due("12 corners, edges, faces, blocks", x.corners() - 4 + 3 - 1, x::number);
    }

    private static void p13OpenFaces() {
        Check.due("13 none", 0, new Tetrahedry()::openFaces);
        Check.due("13 loose", 32, loose(8)::openFaces);
        Check.due("13 one pair", 10, glued(3, 2, 1, 0, 4)::openFaces);
        Check.due("13 all glued", 0, figureEight()::openFaces);
    }

    private static void p14Edges() {
        Check.due("14 none", 0, new Tetrahedry()::edges);
        Check.due("14 loose", 48, loose(8)::edges);
        Check.due("14 one pair", 9, glued(2, 0, 0, 1, 5)::edges);
        Check.due("14 sphere", 6, sphere()::edges);
        Check.due("14 small sphere", 3, smallSphere()::edges);
        Check.due("14 figure eight", 2, figureEight()::edges);
        Check.due("14 Gieseking", 1, gieseking()::edges);
    }

    private static void p15EdgeOf() {
        Tetrahedry x = smallSphere();
        int[] due = {0, 1, 1, 1, 1, 2};
        for (int k = 0; k < 6; k++) {
            int edge = k;
            Check.due("15 edge " + edge, due[edge], () -> x.edgeOf(0, edge));
        }
        // by 1032 the corners 1, 2, 3 of block 0 lie on 0, 3, 2 of block 1
        Tetrahedry y = glued(2, 0, 0, 1, 7);
        int[] second = {6, 4, 3, 7, 8, 5};
        for (int k = 0; k < 6; k++) {
            int edge = k;
            Check.due("15 first block", edge, () -> y.edgeOf(0, edge));
            Check.due("15 second block", second[edge], () -> y.edgeOf(1, edge));
        }
        Check.refused("15 no edge", ARGUMENT, () -> y.edgeOf(1, 6));
        Check.refused("15 no edge", ARGUMENT, () -> y.edgeOf(1, -1));
        Check.refused("15 no block", INDEX, () -> y.edgeOf(2, 6));
        Check.refused("15 no block", INDEX, () -> y.edgeOf(-1, 0));
    }

    private static void p16EdgeDegree() {
        Tetrahedry x = smallSphere();
        Check.due("16", 1, () -> x.edgeDegree(0));
        Check.due("16", 4, () -> x.edgeDegree(1));
        Check.due("16", 1, () -> x.edgeDegree(2));
        Check.refused("16 no edge", INDEX, () -> x.edgeDegree(3));
        Check.refused("16 no edge", INDEX, () -> x.edgeDegree(-1));
        Check.refused("16 no edge", INDEX, () -> new Tetrahedry().edgeDegree(0));
        Check.due("16 Gieseking", 6, () -> gieseking().edgeDegree(0));
        Check.due("16 figure eight", 6, () -> figureEight().edgeDegree(1));
        Check.due("16 loose", 1, () -> loose(8).edgeDegree(47));
    }

    private static void p17IsReversed() {
        Tetrahedry x = glued(1, 0, 0, 0, 7);
        boolean[] due = {false, false, false, true};
        Check.due("17 edges", 4, x::edges);
        for (int k = 0; k < 4; k++) {
            int edge = k;
            Check.due("17 edge " + edge, due[edge], () -> x.isReversed(edge));
        }
        Check.refused("17 no edge", INDEX, () -> x.isReversed(4));
        Check.refused("17 no edge", INDEX, () -> x.isReversed(-1));
        Check.due("17 Gieseking", false, () -> gieseking().isReversed(0));
        // 2 goes to 3 and 3 to 2, round two blocks
        Tetrahedry y = glued(2, 0, 0, 1, 0, 0, 1, 1, 1);
        Check.due("17 round two blocks", true, () -> y.isReversed(y.edgeOf(1, 5)));
        Check.due("17 round two blocks", false, () -> y.isReversed(y.edgeOf(1, 0)));
    }

    private static void p18IsInner() {
        Tetrahedry x = glued(1, 0, 0, 0, 7);
        boolean[] due = {false, false, false, true};
        for (int k = 0; k < 4; k++) {
            int edge = k;
            Check.due("18 edge " + edge, due[edge], () -> x.isInner(edge));
        }
        Check.refused("18 no edge", INDEX, () -> x.isInner(4));
        Check.refused("18 no edge", INDEX, () -> x.isInner(-1));
        Check.due("18 sphere", true, () -> sphere().isInner(5));
        Tetrahedry z = loose(1);
        Check.due("18 before it is glued", false, () -> z.isInner(0));
        z.glue(0, 2, 0, 1);
        Check.due("18 when it is", true, () -> z.isInner(0));
        z.unglue(0, 3);
        Check.due("18 as it is open again", false, () -> z.isInner(0));
        Tetrahedry y = glued(2, 0, 0, 1, 0, 0, 1, 1, 0, 0, 2, 1, 0);
        boolean[] three = {false, false, true, false, true, true};
        for (int k = 0; k < 6; k++) {
            int edge = k;
            Check.due("18 a ball of two", three[edge], () -> y.isInner(edge));
        }
    }

    private static void p19Corners() {
        Check.due("19 none", 0, new Tetrahedry()::corners);
        Check.due("19 loose", 32, loose(8)::corners);
        Check.due("19 one pair", 5, glued(2, 1, 2, 0, 23)::corners);
        Check.due("19 sphere", 4, sphere()::corners);
        Check.due("19 small sphere", 2, smallSphere()::corners);
        Check.due("19 Gieseking", 1, gieseking()::corners);
    }

    private static void p20CornerOf() {
        int[] due = {0, 0, 1, 1};
        // by 0321 the face 1 goes to the face 3, the corners 0, 2, 3 to 0, 2, 1
        int[] second = {0, 3, 2, 4};
        Tetrahedry x = smallSphere();
        Tetrahedry y = glued(2, 0, 1, 1, 5);
        for (int k = 0; k < 4; k++) {
            int corner = k;
            Check.due("20 small sphere", due[corner], () -> x.cornerOf(0, corner));
            Check.due("20 first", corner, () -> y.cornerOf(0, corner));
            Check.due("20 second", second[corner], () -> y.cornerOf(1, corner));
        }
        Check.refused("20 no corner", ARGUMENT, () -> y.cornerOf(1, 4));
        Check.refused("20 no corner", ARGUMENT, () -> y.cornerOf(1, -1));
        Check.refused("20 no block", INDEX, () -> y.cornerOf(2, 4));
        Check.refused("20 no block", INDEX, () -> y.cornerOf(-1, 0));
    }

    private static void p21CornerDegree() {
        Tetrahedry x = glued(2, 0, 1, 1, 5);
        int[] due = {2, 1, 2, 2, 1};
        for (int k = 0; k < 5; k++) {
            int corner = k;
            Check.due("21", due[corner], () -> x.cornerDegree(corner));
        }
        Check.refused("21 no corner", INDEX, () -> x.cornerDegree(5));
        Check.refused("21 no corner", INDEX, () -> x.cornerDegree(-1));
        Check.refused("21 no corner", INDEX, () -> new Tetrahedry().cornerDegree(0));
        Check.due("21 figure eight", 8, () -> figureEight().cornerDegree(0));
    }

    private static void p22LinkNumber() {
        Check.due("22 a triangle", 1, () -> loose(1).linkNumber(3));
        Check.due("22 a sphere", 2, () -> sphere().linkNumber(1));
        Check.due("22 a torus", 0, () -> figureEight().linkNumber(0));
        Check.due("22 a Klein bottle", 0, () -> gieseking().linkNumber(0));
        Tetrahedry band = glued(1, 0, 0, 0, 8);
        Check.due("22 a band", 0, () -> band.linkNumber(band.cornerOf(0, 3)));
        Tetrahedry fold = glued(1, 0, 0, 0, 7);
        Check.due("22 two triangles with two sides joined", 1, () -> fold.linkNumber(fold.cornerOf(0, 2)));
        Check.due("22 two triangles with one side joined", 1, () -> fold.linkNumber(fold.cornerOf(0, 0)));
        Check.due("22 one triangle pair closed", 1, () -> glued(1, 0, 0, 0, 7, 0, 2, 0, 1).linkNumber(1));
        Check.refused("22 no corner", INDEX, () -> sphere().linkNumber(4));
        Check.refused("22 no corner", INDEX, () -> sphere().linkNumber(-1));
    }

    private static void p23Link() {
        Check.due("23 d", 'd', () -> loose(1).link(3));
        Check.due("23 s", 's', () -> sphere().link(1));
        Check.due("23 t", 't', () -> figureEight().link(0));
        Check.due("23 k", 'k', () -> gieseking().link(0));
        Tetrahedry later = fromCode(4, 0, 0, 0, 0, 2, 1, 8, 2, 1, 12, 2, 1, 3, 2, 1, 4, 0, 0, 0, 0, 0, 0, 0, 0);
        Check.due("23 k behind others", 'k', () -> later.link(4));
        Check.due("23 d behind it", 'd', () -> later.link(5));
        for (int face = 0; face < 4; face++) {
            later.glue(2, face, 3, new int[] {0, 8, 7, 19}[face]);
        }
        Check.due("23 t behind others", 't', () -> later.link(5));
        Tetrahedry band = glued(1, 0, 0, 0, 8);
        Check.due("23 o with open sides", 'o', () -> band.link(band.cornerOf(0, 3)));
        // the figure eight with a face open: a torus with open sides
        Tetrahedry open = figureEight();
        open.unglue(0, 1);
        Check.due("23 o, not t, with open sides", 'o', () -> open.link(0));
        // 23 lies on itself the other way round, so the ends at 2 and 3 make a link of number 1 without open sides
        Tetrahedry closed = glued(1, 0, 0, 0, 7, 0, 2, 0, 1);
        Check.due("23 s", 's', () -> closed.link(0));
        Check.due("23 o without open sides", 'o', () -> closed.link(1));
        Check.refused("23 no corner", INDEX, () -> sphere().link(4));
        Check.refused("23 no corner", INDEX, () -> sphere().link(-1));
    }

    private static void p24CodeLength() {
        Check.refused("24 no blocks", UNSUPPORTED, new Tetrahedry()::codeLength);
        Check.refused("24 two parts", UNSUPPORTED, loose(2)::codeLength);
        Check.due("24 loose", 4, loose(1)::codeLength);
        Check.due("24 one pair", 10, glued(2, 0, 0, 1, 13)::codeLength);
        Check.due("24 one block", 12, gieseking()::codeLength);
        Check.due("24 the longest", 7 + 3 * 25, () -> ringOfEight(true).codeLength());
    }

    /** Eight blocks in a ring, each glued to the next one by two faces, round an edge; both long sides closed. */
    private static Tetrahedry ringOfEight(boolean closed) {
        Tetrahedry x = loose(8);
        for (int b = 0; b < 8; b++) {
            x.glue(b, 2, (b + 1) % 8, 1);
            if (closed) {
                x.glue(b, 0, b, 6);
            }
        }
        return x;
    }

    private static void p25CodeAt() {
        Check.due("25 loose", List.of(0, 0, 0, 0), () -> code(loose(1)));
        Check.due("25 one pair", List.of(0, 0, 0, 1, 0, 0, 0, 2, 0, 0), () -> code(glued(2, 0, 1, 1, 17)));
        Check.due("25 sphere", List.of(1, 2, 1, 0, 2, 1, 0, 2, 1, 0, 2, 0, 0, 2, 0, 0, 2, 0, 0, 2, 0, 0),
                () -> code(sphere()));
        Check.due("25 small sphere", List.of(2, 0, 6, 2, 0, 6, 2, 0, 1, 2, 0, 1), () -> code(smallSphere()));
        // by 3210 the faces 0 and 3 are glued; the least names have the faces 2 and 3 glued by 0132
        Check.due("25 open ones first", List.of(0, 0, 2, 0, 1, 2, 0, 1), () -> code(glued(1, 0, 0, 0, 21)));
        Tetrahedry x = sphere();
        Check.refused("25 no such index", NONE, () -> x.codeAt(22));
        Check.refused("25 no such index", NONE, () -> x.codeAt(-1));
        Check.due("25 last", 0, () -> x.codeAt(21));
        Check.refused("25 two parts", UNSUPPORTED, () -> loose(2).codeAt(-1));
        Check.refused("25 no blocks", UNSUPPORTED, () -> new Tetrahedry().codeAt(0));
        codeIsLeastOverNames();
    }

    /** The same space with other names of blocks and corners has the same code. */
    private static void codeIsLeastOverNames() {
        Lcg lcg = new Lcg(7);
        for (int tries = 0; tries < 20; tries++) {
            Tetrahedry start = figureEight();
            start.twoForThree(0, 1);
            start.oneForFour(1);
            Check.due("25 other names", code(start), () -> code(renamed(start, 6, lcg)));
        }
    }

    static Tetrahedry renamed(Tetrahedry x, int blocks, Lcg lcg) {
        int[] place = new int[blocks];
        int[] names = new int[blocks];
        for (int b = 0; b < blocks; b++) {
            place[b] = b;
            names[b] = lcg.below(24);
            int swap = lcg.below(b + 1);
            place[b] = place[swap];
            place[swap] = b;
        }
        Tetrahedry y = loose(blocks);
        boolean[] glued = new boolean[4 * blocks];
        List<Integer> all = gluings(x, blocks);
        for (int at = 0; at < 4 * blocks; at++) {
            int b = at / 4;
            int face = Oracle.ORDERS[names[b]][at % 4];
            if (all.get(at) >= 0 && !glued[4 * place[b] + face]) {
                int[] order = new int[4];
                for (int k = 0; k < 4; k++) {
                    int to = Oracle.ORDERS[all.get(at) % 24][k];
                    order[Oracle.ORDERS[names[b]][k]] = Oracle.ORDERS[names[all.get(at) / 24]][to];
                }
                int other = place[all.get(at) / 24];
                glued[4 * other + y.glue(place[b], face, other, Oracle.orderNumber(order))] = true;
            }
        }
        return y;
    }

    private static void p26KeepCode() {
        Tetrahedry x = sphere();
        Check.due("26", 22, () -> x.keepCode(2));
        Check.due("26 kept", true, () -> x.isKept(2));
        Check.refused("26 others are not", NONE, () -> x.isKept(0));
        Check.refused("26 no slot", ARGUMENT, () -> x.keepCode(3));
        Check.refused("26 no slot", ARGUMENT, () -> x.keepCode(-1));
        x.addBlock();
        Check.refused("26 no slot", ARGUMENT, () -> x.keepCode(3));
        Check.refused("26 two parts", UNSUPPORTED, () -> x.keepCode(2));
        x.clear();
        Check.refused("26 no blocks", UNSUPPORTED, () -> x.keepCode(2));
        x.addBlock();
        Check.due("26 in place of the other", 4, () -> x.keepCode(2));
        Check.due("26 in place of the other", true, () -> x.isKept(2));
    }

    private static void p27IsKept() {
        Tetrahedry x = figureEight();
        for (int k = 0; k < 3; k++) {
            x.keepCode(k);
        }
        Check.due("27 the same", true, () -> x.isKept(0));
        x.twoForThree(1, 2);
        Check.due("27 after a move", false, () -> x.isKept(0));
        x.undo();
        Check.due("27 after undo", true, () -> x.isKept(1));
        Check.refused("27 no slot", ARGUMENT, () -> x.isKept(3));
        Check.refused("27 no slot", ARGUMENT, () -> x.isKept(-1));
        x.clear();
        Check.refused("27 no slot", ARGUMENT, () -> x.isKept(3));
        Check.refused("27 no blocks", UNSUPPORTED, () -> x.isKept(0));
        x.addBlock();
        x.addBlock();
        Check.refused("27 two parts", UNSUPPORTED, () -> x.isKept(0));
        x.glue(0, 0, 1, 0);
        Check.due("27 another length", false, () -> x.isKept(2));
        x.undo();
        for (int[] row : new int[][] {{0, 0, 1, 0}, {0, 1, 1, 3}, {0, 2, 1, 23}, {0, 3, 1, 12}}) {
            x.glue(row[0], row[1], row[2], row[3]);
        }
        Check.due("27 as long", 22, x::codeLength);
        Check.due("27 as long, but unlike", false, () -> x.isKept(2));
        Tetrahedry y = loose(2);
        Check.refused("27 two parts before none kept", UNSUPPORTED, () -> y.isKept(0));
    }

    /** Block 2 stays; the faces 0 of block 0 and 1 of block 1 lead to it; the faces 3 of both are the pair that goes. */
    private static void p28TwoForThree() {
        Tetrahedry x = glued(3, 0, 3, 1, 0, 0, 0, 2, 0, 1, 1, 2, 0);
        x.setPieces(0, 0, 1);
        Check.due("28 blocks", 4, () -> x.twoForThree(0, 3));
        Check.due("28 gluings", List.of(
                24 + 9, 48 + 13, -1, -1,
                -1, 18, 48, 72 + 1,
                10, -1, 24, 72,
                -1, -1, 24 + 1, 48), () -> gluings(x, 4));
        Check.due("28 no pieces", 0, () -> x.setPieces(0, 0, 0));
        Check.refused("28 open", UNSUPPORTED, () -> x.twoForThree(0, 2));
        Check.refused("28 no face", ARGUMENT, () -> x.twoForThree(0, 4));
        Check.refused("28 no face", ARGUMENT, () -> x.twoForThree(0, -1));
        Check.refused("28 no block", INDEX, () -> x.twoForThree(4, 4));
        Check.refused("28 no block", INDEX, () -> x.twoForThree(-1, 0));
        Check.refused("28 the same block", UNSUPPORTED, () -> gieseking().twoForThree(0, 0));
        Tetrahedry seven = glued(7, 0, 0, 6, 0);
        Check.due("28 eight may be", 8, () -> seven.twoForThree(6, 0));
        Tetrahedry eight = glued(8, 0, 0, 7, 0);
        eight.setPieces(0, 1, 9);
        Check.refused("28 nine may not", UNSUPPORTED, () -> eight.twoForThree(0, 0));
        Check.due("28 refused, pieces stay", 9, () -> eight.setPieces(0, 1, 9));
        // outer faces that are glued to each other, told from the upper block
        Tetrahedry y = sphere();
        y.twoForThree(1, 2);
        Check.due("28 outer pairs", List.of(
                24 + 0 - 24 + 6, 6, 24, 48 + 1,
                24 + 6, 24 + 6, 0, 48,
                48 + 6, 48 + 6, 1, 24), () -> gluings(y, 3));
        spaceStays("28", figureEight(), z -> z.twoForThree(0, 2));
        spaceStays("28", lensAsTwo(), z -> z.twoForThree(1, 0));
    }

    private interface Move {
        int on(Tetrahedry x);
    }

    /** What is of the space answers alike after a move, and undo brings the gluings back. */
    private static void spaceStays(String promise, Tetrahedry x, Move move) {
        List<Object> before = ofTheSpace(x);
        long sum = x.checksum();
        move.on(x);
        Check.due(promise + " the space stays", before, () -> ofTheSpace(x));
        x.undo();
        Check.due(promise + " is undone", sum, x::checksum);
    }

    private static List<Object> ofTheSpace(Tetrahedry x) {
        List<Object> all = new ArrayList<>(List.of(x.parts(), x.isAlikeTurned(), x.kind(), x.number(), x.holes(),
                x.openFaces(), x.twists()));
        for (int k = 0; k < x.twists(); k++) {
            all.add(x.twistAt(k));
        }
        return all;
    }

    /** Two blocks, a space with the twist 8. */
    private static Tetrahedry lensAsTwo() {
        return fromCode(2, 1, 2, 0, 9, 2, 0, 18, 2, 1, 16, 2, 0, 0, 2, 0, 16, 2, 1, 9, 2, 1, 18);
    }

    /** Three blocks, 1 to 3, round the edge 02 of block 1, told by names of all kinds; the last gluing is told. */
    private static Tetrahedry roundAnEdge(int last) {
        return glued(4, 1, 1, 2, 9, 1, 3, 3, 5, 2, 0, 3, last);
    }

    private static void p29ThreeForTwo() {
        Tetrahedry x = roundAnEdge(18);
        x.glue(0, 0, 2, 7);
        x.glue(0, 2, 3, 0);
        x.glue(1, 0, 3, 0);
        x.setPieces(0, 0, 1);
        Check.due("29 blocks", 3, () -> x.threeForTwo(x.edgeOf(1, 1)));
        Check.due("29 gluings", List.of(
                48 + 8, -1, 24 + 5, -1,
                48, -1, 5, -1,
                24, 12, 48 + 3, 48 + 4), () -> gluings(x, 3));
        Check.due("29 no pieces", 0, () -> x.setPieces(0, 0, 0));
        Check.refused("29 no edge", INDEX, () -> x.threeForTwo(x.edges()));
        Check.refused("29 no edge", INDEX, () -> x.threeForTwo(-1));
        Tetrahedry turned = roundAnEdge(23);
        Check.due("29 degree", 3, () -> turned.edgeDegree(turned.edgeOf(1, 1)));
        Check.due("29 inner", true, () -> turned.isInner(turned.edgeOf(1, 1)));
        turned.setPieces(0, 1, 9);
        Check.refused("29 reversed", UNSUPPORTED, () -> turned.threeForTwo(turned.edgeOf(1, 1)));
        Check.due("29 refused, pieces stay", 9, () -> turned.setPieces(0, 1, 9));
        Tetrahedry open = roundAnEdge(18);
        open.unglue(2, 0);
        Check.due("29 degree", 3, () -> open.edgeDegree(open.edgeOf(1, 1)));
        Check.refused("29 not inner", UNSUPPORTED, () -> open.threeForTwo(open.edgeOf(1, 1)));
        Check.refused("29 degree 2", UNSUPPORTED, () -> sphere().threeForTwo(0));
        Tetrahedry one = fromCode(1, 2, 0, 9, 2, 0, 18, 2, 0, 13, 2, 0, 10);
        Check.due("29 degree", 3, () -> one.edgeDegree(0));
        Check.refused("29 in one block", UNSUPPORTED, () -> one.threeForTwo(0));
        inTwoBlocks(fromCode(2, 1, 2, 0, 2, 2, 0, 2, 2, 1, 0, 2, 0, 0, 2, 1, 9, 2, 1, 18, 2, 0, 0));
        inTwoBlocks(fromCode(2, 1, 2, 0, 9, 2, 0, 18, 2, 1, 0, 2, 0, 0, 2, 1, 22, 2, 1, 17, 2, 0, 0));
        inTwoBlocks(fromCode(2, 1, 2, 0, 2, 2, 0, 2, 2, 1, 7, 2, 0, 0, 2, 1, 17, 2, 0, 7, 2, 1, 22));
        inTwoBlocks(fromCode(2, 1, 2, 0, 9, 2, 0, 18, 2, 1, 7, 2, 0, 0, 2, 1, 17, 2, 0, 7, 2, 1, 22));
        Tetrahedry back = figureEight();
        back.twoForThree(0, 3);
        Check.due("29 back", 2, () -> back.threeForTwo(back.edgeOf(0, 0)));
        Check.due("29 the same space", code(figureEight()), () -> code(back));
    }

    private static void inTwoBlocks(Tetrahedry x) {
        for (int k = 0; k < x.edges(); k++) {
            int edge = k;
            Check.refused("29 no edge in two blocks goes", UNSUPPORTED, () -> x.threeForTwo(edge));
        }
    }

    private static void p30OneForFour() {
        Tetrahedry x = glued(2, 0, 2, 1, 0, 0, 0, 0, 6);
        x.setPieces(1, 0, 1);
        Check.due("30 blocks", 5, () -> x.oneForFour(0));
        Check.due("30 gluings", List.of(
                -1, -1, 72, -1,
                48 + 6, 48 + 6, 72 + 14, 96 + 21,
                24 + 6, 24 + 6, 72 + 2, 96 + 5,
                24 + 14, 48 + 2, 0, 96 + 1,
                24 + 21, 48 + 5, 72 + 1, -1), () -> gluings(x, 5));
        Check.due("30 no pieces", 0, () -> x.setPieces(1, 0, 0));
        Check.due("30 eight may be", 8, () -> x.oneForFour(4));
        x.setPieces(1, 0, 9);
        Check.refused("30 more may not", UNSUPPORTED, () -> x.oneForFour(0));
        Check.due("30 refused, pieces stay", 9, () -> x.setPieces(1, 0, 9));
        Check.refused("30 no block", INDEX, () -> x.oneForFour(8));
        Check.refused("30 no block", INDEX, () -> x.oneForFour(-1));
        Check.refused("30 six are too many", UNSUPPORTED, () -> loose(6).oneForFour(0));
        Check.due("30 five are not", 8, () -> loose(5).oneForFour(4));
        spaceStays("30", gieseking(), z -> z.oneForFour(0));
        spaceStays("30", lensAsTwo(), z -> z.oneForFour(1));
    }

    /**
     * Four blocks round a point, from the number base on, of the places 1, 3, 0 and 2 by names that are told, and a
     * last block. Of a pair that is told as twisted two corners of the face are exchanged.
     */
    private static Tetrahedry roundAPoint(int base, int twistedOne, int twistedTwo) {
        int[] places = {1, 3, 0, 2};
        int[][] names = {{3, 1, 0, 2}, {0, 2, 3, 1}, {2, 1, 0, 3}, {1, 3, 2, 0}};
        Tetrahedry x = loose(base + 5);
        for (int i = 0; i < 4; i++) {
            for (int j = i + 1; j < 4; j++) {
                int[] order = new int[4];
                int face = 0;
                for (int c = 0; c < 4; c++) {
                    int name = names[i][c];
                    face = name == places[j] ? c : face;
                    if (name == places[i] || name == places[j]) {
                        name = places[i] + places[j] - name;
                    } else if (i == twistedOne && j == twistedTwo) {
                        name = 6 - places[i] - places[j] - name;
                    }
                    for (int d = 0; d < 4; d++) {
                        order[c] = names[j][d] == name ? d : order[c];
                    }
                }
                x.glue(base + i, face, base + j, Oracle.orderNumber(order));
            }
        }
        return x;
    }

    /** A corner of the degree 4 that does not go. */
    private static void pointStays(String what, Tetrahedry x, int block, int corner) {
        Check.due(what + ", degree", 4, () -> x.cornerDegree(x.cornerOf(block, corner)));
        x.setPieces(0, 1, 9);
        Check.refused(what, UNSUPPORTED, () -> x.fourForOne(x.cornerOf(block, corner)));
        Check.due(what + ", refused, pieces stay", 9, () -> x.setPieces(0, 1, 9));
    }

    private static void p31FourForOne() {
        Tetrahedry x = roundAPoint(0, -1, -1);
        x.glue(4, 0, 1, 13);
        x.glue(4, 3, 0, 3);
        x.setPieces(0, 0, 1);
        Check.due("31 blocks", 2, () -> x.fourForOne(x.cornerOf(0, 1)));
        Check.due("31 gluings", List.of(24 + 2, -1, -1, 24 + 3, 2, 4, -1, -1), () -> gluings(x, 2));
        Check.due("31 no pieces", 0, () -> x.setPieces(0, 0, 0));
        Check.refused("31 no corner", INDEX, () -> x.fourForOne(x.corners()));
        Check.refused("31 no corner", INDEX, () -> x.fourForOne(-1));
        for (int one = 0; one < 4; one++) {
            for (int two = one + 1; two < 4; two++) {
                pointStays("31 glued to each, but not so", roundAPoint(0, one, two), 0, 1);
            }
        }
        int[] points = {1, 2, 2, 2};
        for (int base = 0; base < 2; base++) {
            for (int at = 0; at < 12; at++) {
                int face = at % 3 + (at % 3 < points[at / 3] ? 0 : 1);
                Tetrahedry open = roundAPoint(base, -1, -1);
                open.unglue(base + at / 3, face);
                pointStays("31 open", open, base, 1);
            }
        }
        pointStays("31 in one block", lensOfFour(), 0, 0);
        Check.refused("31 degree 2", UNSUPPORTED, () -> sphere().fourForOne(0));
        // the corner 3 of four blocks, 0 and 1, 2 and 3 glued there by two faces
        Tetrahedry pairs = glued(4, 0, 0, 1, 0, 0, 1, 1, 0, 2, 0, 3, 0, 2, 1, 3, 0, 0, 2, 2, 0, 1, 2, 3, 0);
        Check.due("31 a sphere", 's', () -> pairs.link(pairs.cornerOf(0, 3)));
        pointStays("31 in pairs", pairs, 0, 3);
        // the corner 3 of four blocks, 0 glued to each other one, 1 to itself, 2 and 3 by two faces
        pointStays("31 one to all", glued(4, 0, 0, 1, 0, 0, 1, 2, 0, 0, 2, 3, 0, 1, 1, 1, 2, 2, 0, 3, 0, 2, 2, 3, 2), 0, 3);
        pointStays("31 one to itself", glued(4, 1, 0, 0, 0, 1, 1, 2, 0, 1, 2, 3, 0, 0, 1, 0, 2, 2, 0, 3, 0, 2, 2, 3, 2),
                0, 3);
        Tetrahedry back = figureEight();
        back.oneForFour(0);
        spaceStays("31", back, z -> z.fourForOne(z.cornerOf(1, 0)));
        back.fourForOne(back.cornerOf(1, 0));
        Check.due("31 the same space", code(figureEight()), () -> code(back));
    }

    private static void p32Generators() {
        Check.due("32 none", 0, new Tetrahedry()::generators);
        Check.due("32 loose", 0, loose(8)::generators);
        Check.due("32 a tree", 0, glued(3, 2, 0, 1, 0, 1, 1, 0, 0)::generators);
        Check.due("32 round three", 1, glued(3, 0, 0, 1, 0, 1, 1, 2, 0, 2, 2, 0, 0)::generators);
        Check.due("32 sphere", 3, sphere()::generators);
        Check.due("32 one block", 2, gieseking()::generators);
        Check.due("32 two parts", 1, glued(2, 0, 0, 0, 6)::generators);
        Check.due("32 most", 16, () -> eightOf(8).generators());
    }

    /** Eight parts, the first of which have the twist 4, the others 5. */
    private static Tetrahedry eightOf(int fours) {
        Tetrahedry x = loose(8);
        for (int b = 0; b < 8; b++) {
            x.glue(b, 0, b, 9);
            x.glue(b, 2, b, b < fours ? 9 : 13);
        }
        return x;
    }

    private static void p33RelatorLength() {
        Check.due("33 the first call", 4, () -> smallSphere().relatorLength(1));
        Tetrahedry x = smallSphere();
        int[] due = {1, 4, 1};
        for (int k = 0; k < 3; k++) {
            int edge = k;
            Check.due("33 small sphere", due[edge], () -> x.relatorLength(edge));
        }
        Check.due("33 two generators", 2, () -> sphere().relatorLength(0));
        Check.due("33 one in the tree", 1, () -> sphere().relatorLength(5));
        Tetrahedry y = glued(1, 0, 0, 0, 7);
        Check.due("33 a reversed edge", 1, () -> y.relatorLength(3));
        Check.refused("33 not inner", UNSUPPORTED, () -> y.relatorLength(0));
        Check.refused("33 no edge", INDEX, () -> y.relatorLength(4));
        Check.refused("33 no edge", INDEX, () -> y.relatorLength(-1));
        // the new edge of a move goes through the new blocks by one generator, as two of the three pairs are the tree
        Tetrahedry z = glued(2, 0, 0, 1, 0);
        z.twoForThree(0, 0);
        Check.due("33 a tree but for one", 1, () -> z.relatorLength(z.edgeOf(0, 0)));
        Check.due("33 a ring", 1, () -> ringOfEight(false).relatorLength(0));
    }

    private static void relatorIs(String what, Tetrahedry x, int edge, int... due) {
        Check.due(what + " length", due.length, () -> x.relatorLength(edge));
        for (int k = 0; k < due.length; k++) {
            int at = k;
            Check.due(what + " at " + at, due[at], () -> x.relatorAt(edge, at));
        }
        Check.refused(what + " no index", NONE, () -> x.relatorAt(edge, due.length));
        Check.refused(what + " no index", NONE, () -> x.relatorAt(edge, -1));
    }

    private static void p34RelatorAt() {
        Check.due("34 the first call", -2, () -> smallSphere().relatorAt(1, 1));
        relatorIs("34 small sphere", smallSphere(), 0, 2);
        relatorIs("34 small sphere", smallSphere(), 1, -1, -2, 1, 2);
        relatorIs("34 small sphere", smallSphere(), 2, 1);
        relatorIs("34 sphere", sphere(), 0, 2, -3);
        relatorIs("34 sphere", sphere(), 3, -3);
        relatorIs("34 sphere", sphere(), 5, -1);
        Tetrahedry y = glued(1, 0, 0, 0, 7);
        relatorIs("34 reversed", y, 3, 1);
        Check.refused("34 not inner", UNSUPPORTED, () -> y.relatorAt(0, -1));
        Check.refused("34 no edge", INDEX, () -> y.relatorAt(4, 0));
        Check.refused("34 no edge", INDEX, () -> y.relatorAt(-1, 0));
        // the pair of blocks 0 and 7 is the second one, and closes the ring: it is gone through from block 7
        Tetrahedry ring = ringOfEight(false);
        relatorIs("34 a ring", ring, ring.edgeOf(0, 0), 1);
    }

    private static void p35Holes() {
        Check.due("35 none", 0, new Tetrahedry()::holes);
        Check.due("35 sphere", 0, sphere()::holes);
        Check.due("35 Gieseking", 1, gieseking()::holes);
        Check.due("35 figure eight", 1, figureEight()::holes);
        Check.due("35 a generator without a relator", 1, glued(1, 0, 0, 0, 8)::holes);
        Check.due("35 lens", 0, lensOfFour()::holes);
        Check.due("35 sphere by circle", 1, () -> fromCode(2, 1, 2, 0, 9, 2, 0, 18, 2, 1, 0, 2, 0, 0, 2, 1, 9,
                2, 1, 18, 2, 0, 0).holes());
        Tetrahedry x = loose(8);
        for (int b = 0; b < 8; b++) {
            x.glue(b, 1, b, 9);
        }
        Check.due("35 eight", 8, x::holes);
    }

    private static void p36Twists() {
        Check.due("36 none", 0, new Tetrahedry()::twists);
        Check.due("36 sphere", 0, sphere()::twists);
        Check.due("36 Gieseking", 0, gieseking()::twists);
        Check.due("36 lens", 1, lensOfFour()::twists);
        Check.due("36 two twists", 2, quaternions()::twists);
        Check.due("36 fours", 8, eightOf(8)::twists);
        Check.due("36 a four and a five", 1, glued(2, 0, 0, 0, 9, 0, 2, 0, 9, 1, 0, 1, 9, 1, 2, 1, 13)::twists);
        Check.due("36 fours and fives", 5, eightOf(5)::twists);
        Check.due("36 fours and fives", 4, eightOf(4)::twists);
        Check.due("36 a hole and a twist", 1, () -> fromCode(2, 1, 2, 1, 3, 2, 1, 23, 2, 1, 12, 2, 0, 0, 2, 0, 23,
                2, 0, 4, 2, 0, 8).twists());
    }

    private static Tetrahedry quaternions() {
        return fromCode(2, 1, 2, 1, 16, 2, 1, 23, 2, 1, 7, 2, 0, 0, 2, 0, 23, 2, 0, 7, 2, 0, 16);
    }

    private static void p37TwistAt() {
        Check.due("37 lens", 4L, () -> lensOfFour().twistAt(0));
        Check.due("37 lens", 8L, () -> lensAsTwo().twistAt(0));
        Check.due("37 two twists", 2L, () -> quaternions().twistAt(0));
        Check.due("37 two twists", 2L, () -> quaternions().twistAt(1));
        Check.refused("37 no index", NONE, () -> quaternions().twistAt(2));
        Check.refused("37 no index", NONE, () -> quaternions().twistAt(-1));
        Check.refused("37 none", NONE, () -> sphere().twistAt(0));
        Check.refused("37 none", NONE, () -> new Tetrahedry().twistAt(0));
        Check.due("37 a four and a five", 20L, () -> glued(2, 0, 0, 0, 9, 0, 2, 0, 9, 1, 0, 1, 9, 1, 2, 1, 13).twistAt(0));
        Tetrahedry x = eightOf(5);
        long[] due = {4, 4, 20, 20, 20};
        for (int k = 0; k < 5; k++) {
            int at = k;
            Check.due("37 each divides the next", due[at], () -> x.twistAt(at));
        }
        Check.due("37 with a hole", 5L, () -> fromCode(2, 1, 2, 1, 3, 2, 1, 23, 2, 1, 12, 2, 0, 0, 2, 0, 23,
                2, 0, 4, 2, 0, 8).twistAt(0));
    }

    private static void p38CountFlat() {
        Check.due("38 none", 1, new Tetrahedry()::countFlat);
        Check.due("38 loose", 3, loose(1)::countFlat);
        Check.due("38 loose", 6561, loose(8)::countFlat);
        Check.due("38 sphere", 0, sphere()::countFlat);
        Check.due("38 Gieseking", 3, gieseking()::countFlat);
        Check.due("38 figure eight", 3, figureEight()::countFlat);
        // of the blocks round the inner edge two have it as a half turn, each other one has two ways
        Check.due("38 ring", 28 * 64, () -> ringOfEight(false).countFlat());
        Tetrahedry x = glued(5, 1, 2, 3, 1, 3, 2, 1, 1);
        Check.due("38 ring of two, three loose", 27, x::countFlat);
        x.unglue(3, 2);
        Check.due("38 no inner edge", 243, x::countFlat);
    }

    private static void p39SetPieces() {
        Tetrahedry x = loose(2);
        for (int k = 0; k < 7; k++) {
            int kind = k;
            Check.due("39 first", 0, () -> x.setPieces(1, kind, 90 + kind));
        }
        for (int k = 0; k < 7; k++) {
            int kind = k;
            Check.due("39 then", 90 + kind, () -> x.setPieces(1, kind, 99));
            Check.due("39 of the other block", 0, () -> x.setPieces(0, kind, 0));
            Check.due("39 last", 99, () -> x.setPieces(1, kind, 99));
        }
        Check.refused("39 no kind", ARGUMENT, () -> x.setPieces(0, 7, 0));
        Check.refused("39 no kind", ARGUMENT, () -> x.setPieces(0, -1, 0));
        Check.refused("39 too many", ARGUMENT, () -> x.setPieces(0, 0, 100));
        Check.refused("39 too few", ARGUMENT, () -> x.setPieces(0, 0, -1));
        Check.refused("39 no block", INDEX, () -> x.setPieces(2, 7, 100));
        Check.refused("39 no block", INDEX, () -> x.setPieces(-1, 0, 0));
        Check.due("39 nothing changed", 0, () -> x.setPieces(0, 0, 0));
        Check.due("39 no change to undo but blocks", 1, x::undo);
    }

    private static void p40PutLink() {
        Tetrahedry x = smallSphere();
        Check.due("40 how many", 2, () -> x.putLink(1));
        Check.due("40 how many", 2, () -> x.putLink(1));
        int[] due = {0, 0, 2, 2, 0, 0, 0};
        for (int k = 0; k < 7; k++) {
            int kind = k;
            Check.due("40 kind " + kind, due[kind], () -> x.setPieces(0, kind, due[kind]));
        }
        x.setPieces(0, 3, 98);
        Check.due("40 to 99", 2, () -> x.putLink(1));
        Check.refused("40 to 100", UNSUPPORTED, () -> x.putLink(1));
        Check.due("40 nothing changed", 3, () -> x.setPieces(0, 2, 3));
        x.setPieces(0, 4, 99);
        Check.due("40 another corner", 2, () -> x.putLink(0));
        x.setPieces(0, 0, 99);
        Check.refused("40 the first is at 99", UNSUPPORTED, () -> x.putLink(0));
        Check.due("40 nothing changed", 1, () -> x.setPieces(0, 1, 1));
        Check.refused("40 no corner", INDEX, () -> x.putLink(2));
        Check.refused("40 no corner", INDEX, () -> x.putLink(-1));
        Check.refused("40 no corner", INDEX, () -> new Tetrahedry().putLink(0));
        Check.due("40 more blocks", 8, () -> figureEight().putLink(0));
        Tetrahedry last = loose(3);
        last.setPieces(2, 3, 99);
        Check.refused("40 the last is at 99", UNSUPPORTED, () -> last.putLink(11));
        Check.due("40 the one before", 1, () -> last.putLink(10));
    }

    private static void p41IsMatched() {
        Check.due("41 none", true, new Tetrahedry()::isMatched);
        Tetrahedry x = loose(2);
        x.setPieces(0, 3, 2);
        x.setPieces(0, 4, 5);
        Check.due("41 open faces match", true, x::isMatched);
        x.glue(0, 3, 1, 0);
        Check.due("41 quads cut a corner off", false, x::isMatched);
        x.setPieces(1, 2, 5);
        Check.due("41 a triangle's arc is as one of a quad", true, x::isMatched);
        x.setPieces(1, 3, 50);
        Check.due("41 the corner that is not in the face", true, x::isMatched);
        x.setPieces(1, 2, 4);
        Check.due("41 one less", false, x::isMatched);
        x.setPieces(1, 4, 1);
        Check.due("41 as many by both", true, x::isMatched);
        x.setPieces(1, 6, 1);
        Check.due("41 another quad", false, x::isMatched);
        x.setPieces(0, 0, 1);
        Check.due("41 a triangle for it", true, x::isMatched);
        x.glue(0, 0, 1, 0);
        Check.due("41 another pair of faces", false, x::isMatched);
        x.unglue(0, 3);
        x.unglue(1, 0);
        Check.due("41 open faces match", true, x::isMatched);
        Tetrahedry last = glued(8, 6, 3, 7, 0);
        last.setPieces(7, 0, 1);
        Check.due("41 on the last blocks", false, last::isMatched);
        last.setPieces(6, 0, 1);
        Check.due("41 on the last blocks", true, last::isMatched);
        Tetrahedry y = glued(1, 0, 0, 0, 8);
        y.setPieces(0, 3, 1);
        Check.due("41 on one block", true, y::isMatched);
        y.setPieces(0, 1, 1);
        Check.due("41 on one block", false, y::isMatched);
    }

    private static void p42IsSingle() {
        Check.due("42 none", true, new Tetrahedry()::isSingle);
        Tetrahedry x = loose(2);
        x.setPieces(0, 0, 1);
        x.setPieces(0, 1, 1);
        x.setPieces(0, 4, 99);
        x.setPieces(1, 5, 1);
        Check.due("42 one kind in each block", true, x::isSingle);
        for (int block = 0; block < 8; block++) {
            for (int[] pair : new int[][] {{4, 5}, {4, 6}, {5, 6}}) {
                Tetrahedry y = loose(8);
                y.setPieces(block, pair[0], 1);
                Check.due("42 one", true, y::isSingle);
                y.setPieces(block, pair[1], 2);
                Check.due("42 two", false, y::isSingle);
                y.setPieces(block, pair[0], 0);
                Check.due("42 the other", true, y::isSingle);
            }
        }
    }

    private static void p43SurfaceNumber() {
        Check.due("43 no pieces", 0, new Tetrahedry()::surfaceNumber);
        Check.due("43 no pieces", 0, figureEight()::surfaceNumber);
        Tetrahedry x = sphere();
        x.putLink(2);
        Check.due("43 a link of a sphere", 2, x::surfaceNumber);
        x.putLink(2);
        x.putLink(0);
        Check.due("43 three of them", 6, x::surfaceNumber);
        x.setPieces(0, 5, 7);
        Check.refused("43 no match", UNSUPPORTED, x::surfaceNumber);
        x.setPieces(1, 5, 7);
        Check.due("43 quads: seven spheres more", 20, x::surfaceNumber);
        x.setPieces(0, 4, 1);
        x.setPieces(1, 4, 1);
        Check.due("43 match", true, x::isMatched);
        Check.refused("43 not single", UNSUPPORTED, x::surfaceNumber);
        for (int k = 0; k < 7; k++) {
            Tetrahedry disc = loose(1);
            disc.setPieces(0, k, 99);
            Check.due("43 discs", 99, disc::surfaceNumber);
        }
        Tetrahedry eight = loose(8);
        for (int b = 0; b < 8; b++) {
            eight.setPieces(b, b % 7, b + 1);
        }
        Check.due("43 discs in all blocks", 36, eight::surfaceNumber);
        Tetrahedry two = glued(2, 0, 3, 1, 0);
        two.putLink(0);
        Check.due("43 a disc of two", 1, two::surfaceNumber);
        for (Tetrahedry y : List.of(figureEight(), gieseking())) {
            y.putLink(0);
            Check.due("43 a torus, a Klein bottle", 0, y::surfaceNumber);
        }
        Tetrahedry turned = glued(1, 0, 0, 0, 7, 0, 2, 0, 1);
        turned.putLink(1);
        // the edges are cut 0, 1 and 2 times, the pairs of faces have 2 and 1 arcs, there are 2 triangles
        Check.due("43 a reversed edge as its words say", 3 - 3 + 2, turned::surfaceNumber);
    }

    private static void p44CountThin() {
        Check.due("44 none", 1, new Tetrahedry()::countThin);
        Check.due("44 loose", 64, loose(1)::countThin);
        Check.due("44 loose", 64 * 64, loose(2)::countThin);
        Check.due("44 loose", 64 * 64 * 64, loose(3)::countThin);
        Check.refused("44 four", UNSUPPORTED, loose(4)::countThin);
        Check.refused("44 eight", UNSUPPORTED, loose(8)::countThin);
        Check.due("44 sphere", 64, sphere()::countThin);
        Check.due("44 small sphere", 8, smallSphere()::countThin);
        // arcs with k ones and no two come in 1 + k ways, those with a two in one; the fourth triangle is free
        Check.due("44 a pair of faces", 4 * (1 + 3 * 4 + 3 * 9 + 16 + 12), glued(2, 0, 1, 1, 19)::countThin);
        Check.due("44 a pair of first faces", 272, glued(2, 0, 0, 1, 0)::countThin);
        Check.due("44 a pair of last faces", 272, glued(2, 0, 3, 1, 0)::countThin);
        Check.due("44 two pairs, other names", glued(2, 0, 0, 1, 0, 0, 1, 1, 0).countThin(),
                glued(2, 0, 0, 1, 6, 0, 1, 1, 6)::countThin);
        Check.due("44 and a loose block", 64 * 272, glued(3, 0, 1, 2, 19)::countThin);
        Tetrahedry x = glued(3, 0, 1, 2, 19);
        x.setPieces(0, 0, 5);
        Check.due("44 pieces do not matter", 64 * 272, x::countThin);
        Check.due("44 pieces stay", 5, () -> x.setPieces(0, 0, 5));
    }

    private static void p45GluedShare() {
        Check.refused("45 none", ARITHMETIC, new Tetrahedry()::gluedShare);
        Check.due("45 loose", 0.0f, loose(3)::gluedShare);
        Check.due("45 all", 1.0f, sphere()::gluedShare);
        Check.due("45 a sixth", 2.0f / 12.0f, glued(3, 0, 0, 1, 0)::gluedShare);
        Check.due("45 two thirds as float", 8.0f / 12.0f,
                glued(3, 0, 0, 1, 0, 0, 1, 1, 0, 0, 2, 1, 0, 0, 3, 1, 0)::gluedShare);
    }

    private static void p46MeanDegree() {
        Check.refused("46 none", ARITHMETIC, new Tetrahedry()::meanDegree);
        Check.due("46 loose", 1.0, loose(3)::meanDegree);
        Check.due("46 sphere", 2.0, sphere()::meanDegree);
        Check.due("46 figure eight", 6.0, figureEight()::meanDegree);
        Check.due("46 a pair", 12.0 / 9.0, glued(2, 0, 0, 1, 0)::meanDegree);
    }

    private static void p47Checksum() {
        Check.due("47 none", 7L, new Tetrahedry()::checksum);
        Check.due("47 loose", 7L * 31 * 31 * 31 * 31, loose(1)::checksum);
        Check.due("47 one pair", (((7L * 31 + 30) * 31 + 30) * 31) * 31, glued(1, 0, 0, 0, 6)::checksum);
        long sum = 7;
        int[] due = {0, 24 + 24 + 3, 0, 0, 0, 0, 24 + 4, 0};
        for (int k : due) {
            sum = sum * 31 + k;
        }
        Check.due("47 two blocks by 0231", sum, glued(2, 0, 1, 1, 3)::checksum);
        long wraps = 7;
        for (int k = 0; k < 32; k++) {
            wraps *= 31;
        }
        Check.due("47 wraps around", wraps, loose(8)::checksum);
    }

    private static void p48IsSound() {
        for (Tetrahedry x : List.of(new Tetrahedry(), loose(8), sphere(), smallSphere(), figureEight(), gieseking(),
                lensOfFour(), quaternions(), glued(1, 0, 0, 0, 7), glued(1, 0, 0, 0, 8), eightOf(4),
                ringOfEight(true))) {
            Check.due("48", true, x::isSound);
        }
    }

    public static void main(String[] args) {
        examples();
        p01NewObject();
        p02AddBlock();
        p03Clear();
        p04Glue();
        p05Unglue();
        p06GluedTo();
        p07GluedBy();
        p08Undo();
        p08UndoOfTheLastEight();
        p09Parts();
        p10IsAlikeTurned();
        p11Kind();
        p12Number();
        p13OpenFaces();
        p14Edges();
        p15EdgeOf();
        p16EdgeDegree();
        p17IsReversed();
        p18IsInner();
        p19Corners();
        p20CornerOf();
        p21CornerDegree();
        p22LinkNumber();
        p23Link();
        p24CodeLength();
        p25CodeAt();
        p26KeepCode();
        p27IsKept();
        p28TwoForThree();
        p29ThreeForTwo();
        p30OneForFour();
        p31FourForOne();
        p32Generators();
        p33RelatorLength();
        p34RelatorAt();
        p35Holes();
        p36Twists();
        p37TwistAt();
        p38CountFlat();
        p39SetPieces();
        p40PutLink();
        p41IsMatched();
        p42IsSingle();
        p43SurfaceNumber();
        p44CountThin();
        p45GluedShare();
        p46MeanDegree();
        p47Checksum();
        p48IsSound();
        Check.end("PromiseTest");
    }
}

import java.util.ArrayList;
import java.util.Collections;
import java.util.List;

/** Two gluings that are joined by moves answer alike to what is of the space, whatever space it is. */
public final class MovesTest {
    private final Tetrahedry x = new Tetrahedry();
    private final Lcg lcg;
    private int blocks;

    private MovesTest(int seed) {
        lcg = new Lcg(seed);
        blocks = 1 + lcg.below(4);
        for (int k = 0; k < blocks; k++) {
            x.addBlock();
        }
        int tries = lcg.below(2) == 0 ? 200 : lcg.below(60);
        boolean[] glued = new boolean[4 * blocks];
        for (int k = 0; k < tries; k++) {
            int[] row = {lcg.below(blocks), lcg.below(4), lcg.below(blocks), lcg.below(24)};
            int face = 4 * row[0] + row[1];
            int across = 4 * row[2] + Oracle.ORDERS[row[3]][row[1]];
            if (face != across && !glued[face] && !glued[across]) {
                x.glue(row[0], row[1], row[2], row[3]);
                glued[face] = true;
                glued[across] = true;
            }
        }
    }

    private List<Object> ofTheSpace() {
        List<Object> all = new ArrayList<>(List.of(x.parts(), x.isAlikeTurned(), x.kind(), x.number(), x.openFaces(),
                x.holes(), x.isSound()));
        int twists = x.twists();
        for (int k = 0; k < twists; k++) {
            all.add(x.twistAt(k));
        }
        List<String> links = new ArrayList<>();
        int corners = x.corners();
        for (int k = 0; k < corners; k++) {
            char link = x.link(k);
            if (link != 's') {
                links.add(link + " " + x.linkNumber(k));
            }
        }
        Collections.sort(links);
        all.addAll(links);
        return all;
    }

    private boolean move() {
        try {
            switch (lcg.below(4)) {
                case 0: blocks = x.twoForThree(lcg.below(blocks), lcg.below(4)); break;
                case 1: blocks = x.threeForTwo(lcg.below(x.edges())); break;
                case 2: blocks = x.oneForFour(lcg.below(blocks)); break;
                default: blocks = x.fourForOne(lcg.below(x.corners())); break;
            }
            return true;
        } catch (UnsupportedOperationException e) {
            return false;
        }
    }

    public static void main(String[] args) {
        for (int seed = 0; seed < 4000; seed++) {
            MovesTest test = new MovesTest(seed);
            List<Object> before = test.ofTheSpace();
            for (int k = 0; k < 6; k++) {
                long sum = test.x.checksum();
                int blocks = test.blocks;
                if (test.move()) {
                    Check.tell("the space of seed " + seed, before, test.ofTheSpace());
                    if (k % 2 == 0) {
                        test.blocks = test.x.undo();
                        Check.tell("blocks, undone, of seed " + seed, blocks, test.blocks);
                        Check.tell("gluings, undone, of seed " + seed, sum, test.x.checksum());
                    }
                }
            }
        }
        Check.end("MovesTest");
    }
}

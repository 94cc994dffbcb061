import java.util.ArrayList;
import java.util.List;
import java.util.Map;
import java.util.TreeMap;
import java.util.TreeSet;

/**
 * All ways to glue all faces of one block, and of two: the spaces without a border that come of it are known. Of one
 * block there are 4 closed codes, of two 17, one of them not turned alike.
 */
public final class CensusTest {
    private static final Map<String, TreeSet<String>> CODES = new TreeMap<>();

    /** Rows of four numbers, as far as faces are glued: block, face, other, order. */
    private static final List<int[]> ROWS = new ArrayList<>();

    /** Glues the first open face in all ways, and so on; each space that comes of it is made anew. */
    private static void glueOn(boolean[] glued) {
        int at = 0;
        while (at < glued.length && glued[at]) {
            at++;
        }
        if (at == glued.length) {
            note(made(glued.length / 4));
            return;
        }
        for (int other = at / 4; other < glued.length / 4; other++) {
            for (int order = 0; order < 24; order++) {
                int across = 4 * other + Oracle.ORDERS[order][at % 4];
                if (across != at && !glued[across]) {
                    glued[at] = true;
                    glued[across] = true;
                    ROWS.add(new int[] {at / 4, at % 4, other, order});
                    glueOn(glued);
                    ROWS.remove(ROWS.size() - 1);
                    glued[at] = false;
                    glued[across] = false;
                }
            }
        }
    }

    private static Tetrahedry made(int blocks) {
        Tetrahedry x = new Tetrahedry();
        for (int k = 0; k < blocks; k++) {
            x.addBlock();
        }
        for (int[] row : ROWS) {
            x.glue(row[0], row[1], row[2], row[3]);
        }
        return x;
    }

    private static void note(Tetrahedry x) {
        if (x.kind() == '-' || x.parts() != 1) {
            return;
        }
        StringBuilder name = new StringBuilder().append(x.kind()).append(x.isAlikeTurned() ? " alike" : " not");
        name.append(" corners ").append(x.corners()).append(" holes ").append(x.holes()).append(" twists");
        for (int k = 0; k < x.twists(); k++) {
            name.append(' ').append(x.twistAt(k));
        }
        List<Integer> code = new ArrayList<>();
        for (int k = 0; k < x.codeLength(); k++) {
            code.add(x.codeAt(k));
        }
        CODES.computeIfAbsent(name.toString(), k -> new TreeSet<>()).add(code.toString());
    }

    private static void census(int blocks) {
        CODES.clear();
        glueOn(new boolean[4 * blocks]);
    }

    private static int codes(String name) {
        return CODES.containsKey(name) ? CODES.get(name).size() : 0;
    }

    private static int codesThatStart(String start) {
        int sum = 0;
        for (String name : CODES.keySet()) {
            sum += name.startsWith(start) ? codes(name) : 0;
        }
        return sum;
    }

    public static void main(String[] args) {
        census(1);
        Check.tell("one block: closed", 4, codesThatStart("c"));
        Check.tell("one block: spheres of one corner", 1, codes("c alike corners 1 holes 0 twists"));
        Check.tell("one block: spheres of two corners", 1, codes("c alike corners 2 holes 0 twists"));
        Check.tell("one block: twist 4", 1, codes("c alike corners 1 holes 0 twists 4"));
        Check.tell("one block: twist 5", 1, codes("c alike corners 1 holes 0 twists 5"));
        Check.tell("one block: Gieseking's", 1, codesThatStart("i"));
        census(2);
        Check.tell("two blocks: closed", 17, codesThatStart("c"));
        Check.tell("two blocks: not alike", 1, codes("c not corners 1 holes 1 twists"));
        Check.tell("two blocks: sphere by circle", 1, codes("c alike corners 1 holes 1 twists"));
        Check.tell("two blocks: spheres", 6, codes("c alike corners 1 holes 0 twists")
                + codes("c alike corners 2 holes 0 twists") + codes("c alike corners 3 holes 0 twists")
                + codes("c alike corners 4 holes 0 twists"));
        int[][] lenses = {{2, 1}, {3, 2}, {5, 1}, {7, 1}, {8, 1}};
        for (int[] lens : lenses) {
            Check.tell("two blocks: twist " + lens[0], lens[1],
                    codes("c alike corners 1 holes 0 twists " + lens[0]));
        }
        Check.tell("two blocks: quaternions", 1, codes("c alike corners 1 holes 0 twists 2 2"));
        Check.tell("two blocks: figure eight's sister", 1, codes("i alike corners 1 holes 1 twists 5"));
        Check.end("CensusTest");
    }
}

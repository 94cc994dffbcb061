import java.util.ArrayList;
import java.util.List;
import java.util.Map;
import java.util.NoSuchElementException;
import java.util.TreeMap;
import java.util.TreeSet;

/**
 * All ways to glue all faces of one block, and of two: the spaces without a border that come of it are known. Of one
 * block there are 4 closed codes, of two 17, one of them not turned alike.
 */
public final class CensusTest {
    private static final Map<String, TreeSet<String>> CODES = new TreeMap<>();

    private static void glueOn(Tetrahedry x, int blocks) {
        int at = 0;
        while (at < 4 * blocks && isGlued(x, at)) {
            at++;
        }
        if (at == 4 * blocks) {
            note(x);
            return;
        }
        for (int other = at / 4; other < blocks; other++) {
            for (int order = 0; order < 24; order++) {
                try {
                    x.glue(at / 4, at % 4, other, order);
                } catch (UnsupportedOperationException e) {
                    continue;
                }
                glueOn(x, blocks);
                x.unglue(at / 4, at % 4);
            }
        }
    }

    private static boolean isGlued(Tetrahedry x, int at) {
        try {
            x.gluedTo(at / 4, at % 4);
            return true;
        } catch (NoSuchElementException e) {
            return false;
        }
    }

    private static void note(Tetrahedry x) {
        if (x.kind() == '-' || x.parts() != 1) {
            return;
        }
        StringBuilder name = new StringBuilder().append(x.kind()).append(x.isAlikeTurned() ? " alike" : " not");
        name.append(" corners ").append(x.corners()).append(" holes ").append(x.holes()).append(" twists");
        for (int k = 0; k < x.twists(); k++) {
            name.append(' ').append(x.twistAt(k));
        }
        List<Integer> code = new ArrayList<>();
        for (int k = 0; k < x.codeLength(); k++) {
            code.add(x.codeAt(k));
        }
        CODES.computeIfAbsent(name.toString(), k -> new TreeSet<>()).add(code.toString());
    }

    private static Tetrahedry census(int blocks) {
        CODES.clear();
        Tetrahedry x = new Tetrahedry();
        for (int k = 0; k < blocks; k++) {
            x.addBlock();
        }
        glueOn(x, blocks);
        return x;
    }

    private static int codes(String name) {
        return CODES.containsKey(name) ? CODES.get(name).size() : 0;
    }

    private static int codesThatStart(String start) {
        int sum = 0;
        for (String name : CODES.keySet()) {
            sum += name.startsWith(start) ? codes(name) : 0;
        }
        return sum;
    }

    public static void main(String[] args) {
        census(1);
        Check.tell("one block: closed", 4, codesThatStart("c"));
        Check.tell("one block: spheres of one corner", 1, codes("c alike corners 1 holes 0 twists"));
        Check.tell("one block: spheres of two corners", 1, codes("c alike corners 2 holes 0 twists"));
        Check.tell("one block: twist 4", 1, codes("c alike corners 1 holes 0 twists 4"));
        Check.tell("one block: twist 5", 1, codes("c alike corners 1 holes 0 twists 5"));
        Check.tell("one block: Gieseking's", 1, codesThatStart("i"));
        census(2);
        Check.tell("two blocks: closed", 17, codesThatStart("c"));
        Check.tell("two blocks: not alike", 1, codes("c not corners 1 holes 1 twists"));
        Check.tell("two blocks: sphere by circle", 1, codes("c alike corners 1 holes 1 twists"));
        Check.tell("two blocks: spheres", 6, codes("c alike corners 1 holes 0 twists")
                + codes("c alike corners 2 holes 0 twists") + codes("c alike corners 3 holes 0 twists")
                + codes("c alike corners 4 holes 0 twists"));
        int[][] lenses = {{2, 1}, {3, 2}, {5, 1}, {7, 1}, {8, 1}};
        for (int[] lens : lenses) {
            Check.tell("two blocks: twist " + lens[0], lens[1],
                    codes("c alike corners 1 holes 0 twists " + lens[0]));
        }
        Check.tell("two blocks: quaternions", 1, codes("c alike corners 1 holes 0 twists 2 2"));
        Check.tell("two blocks: figure eight's sister", 1, codes("i alike corners 1 holes 1 twists 5"));
        Check.end("CensusTest");
    }
}

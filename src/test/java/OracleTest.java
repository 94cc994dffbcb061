import java.lang.reflect.InvocationTargetException;
import java.lang.reflect.Method;
import java.util.ArrayList;
import java.util.Arrays;
import java.util.HashMap;
import java.util.List;
import java.util.Map;

/** Long runs of calls, each answered by the class and by Oracle; every answer and every exception must be alike. */
public final class OracleTest {
    private static final Map<String, Method> OURS = methods(Tetrahedry.class);
    private static final Map<String, Method> THEIRS = methods(Oracle.class);
    private static int wrong;
    private static long compared;
    private static final Map<String, Integer> seen = new HashMap<>();

    private static final int CALLS = 512;

    private Tetrahedry ours = new Tetrahedry();
    private final Oracle theirs = new Oracle();
    private final List<String> log = new ArrayList<>();
    /** The changes that were made, with their names first; by them the bench is made anew as its calls are used up. */
    private final List<Object[]> changes = new ArrayList<>();
    private int calls;
    private final Lcg lcg;

    private OracleTest(long seed) {
        lcg = new Lcg(seed);
    }

    private static Map<String, Method> methods(Class<?> c) {
        Map<String, Method> all = new HashMap<>();
        for (Method m : c.getDeclaredMethods()) {
            if (!m.getName().contains("$") && !java.lang.reflect.Modifier.isPrivate(m.getModifiers())) {
                all.put(m.getName(), m);
            }
        }
        return all;
    }

    private static Object answer(Method m, Object on, Object... args) {
        try {
            return m.invoke(on, args);
        } catch (InvocationTargetException e) {
            if (e.getCause() instanceof Error) {
                throw (Error) e.getCause();
            }
            return "throws." + e.getCause().getClass().getName();
        } catch (IllegalAccessException e) {
            throw new Error(e);
        }
    }

    /** An object is asked no more than its 512 calls. */
    private Object ask(String name, Object... args) {
        if (calls == CALLS) {
            ours = new Tetrahedry();
            for (Object[] change : changes) {
                answer(OURS.get((String) change[0]), ours, Arrays.copyOfRange(change, 1, change.length));
            }
            calls = changes.size();
        }
        calls++;
        return answer(OURS.get(name), ours, args);
    }

    private Object call(String name, Object... args) {
        Object got = ask(name, args);
        Object due = answer(THEIRS.get(name), theirs, args);
        compared++;
        String text = name + List.of(args) + " = " + got;
        if (!got.equals(due)) {
            wrong++;
            if (wrong < 10) {
                System.out.println("after " + log + ": " + text + ", due is " + due);
            }
        }
        if (due instanceof Character || due instanceof String || due instanceof Boolean) {
            seen.merge(name + " " + due, 1, Integer::sum);
        } else if (name.matches("holes|twists|countFlat|countThin|linkNumber|fourForOne|threeForTwo|surfaceNumber")) {
            seen.merge(name + " " + due, 1, Integer::sum);
        }
        return got;
    }

    private Object change(String name, Object... args) {
        Object got = call(name, args);
        log.add(name + List.of(args) + " = " + got);
        if (!got.toString().startsWith("throws")) {
            Object[] row = new Object[args.length + 1];
            row[0] = name;
            System.arraycopy(args, 0, row, 1, args.length);
            changes.add(row);
        }
        return got;
    }

    private static int size(Object answer) {
        return answer instanceof Integer ? (Integer) answer : 0;
    }

    private void compareAll(boolean deep) {
        for (String name : List.of("parts", "isAlikeTurned", "kind", "number", "openFaces", "generators", "holes",
                "twists", "isMatched", "isSingle", "surfaceNumber", "gluedShare", "meanDegree", "checksum",
                "isSound")) {
            call(name);
        }
        int blocks = 0;
        while (blocks < 8 && ask("edgeOf", blocks, 0) instanceof Integer) {
            blocks++;
        }
        for (int b = -1; b <= blocks; b++) {
            for (int k = -1; k <= 6; k++) {
                call("edgeOf", b, k);
                call("cornerOf", b, k);
                call("gluedTo", b, k);
                call("gluedBy", b, k);
            }
        }
        int edges = size(call("edges"));
        for (int e = -1; e <= edges; e++) {
            call("edgeDegree", e);
            call("isReversed", e);
            call("isInner", e);
            int length = size(call("relatorLength", e));
            for (int k = -1; k <= length; k++) {
                call("relatorAt", e, k);
            }
        }
        int corners = size(call("corners"));
        for (int c = -1; c <= corners; c++) {
            call("cornerDegree", c);
            call("linkNumber", c);
            call("link", c);
        }
        int twists = size(call("twists"));
        for (int k = -1; k <= twists; k++) {
            call("twistAt", k);
        }
        int length = size(call("codeLength"));
        if (deep) {
            for (int k = -1; k <= length; k++) {
                call("codeAt", k);
            }
            if (blocks <= 6) {
                call("countFlat");
            }
        }
        if (blocks <= 2 || blocks > 3 || deep) {
            call("countThin");
        }
        for (int slot = -1; slot <= 3; slot++) {
            call("isKept", slot);
        }
    }

    private int near(int bound) {
        return lcg.below(20) == 0 ? lcg.below(bound + 2) - 1 : lcg.below(Math.max(bound, 1));
    }

    private void randomChange() {
        int blocks = Math.max(1, size(ask("corners")) > 0 ? countBlocks() : 0);
        int edges = size(ask("edges"));
        int corners = size(ask("corners"));
        switch (lcg.below(26)) {
            case 0: case 1: change("addBlock"); break;
            case 2: change(lcg.below(4) == 0 ? "clear" : "addBlock"); break;
            case 3: case 4: case 5: case 6: case 7: case 8:
                change("glue", near(blocks), near(4), near(blocks), near(24)); break;
            case 9: change("unglue", near(blocks), near(4)); break;
            case 10: case 11: change("undo"); break;
            case 12: case 13: change("twoForThree", near(blocks), near(4)); break;
            case 14: case 15: change("threeForTwo", near(edges)); break;
            case 16: change("oneForFour", near(blocks)); break;
            case 17: case 18: change("fourForOne", near(corners)); break;
            case 19: change("keepCode", near(3)); break;
            case 20: case 21: change("setPieces", near(blocks), near(7), near(3)); break;
            case 22: case 23: lastThing(blocks); break;
            default: change("putLink", near(corners)); break;
        }
    }

    /** Pieces that are often as many as may be, or of two kinds of quads. */
    private void lastThing(int blocks) {
        change("setPieces", near(blocks), lcg.below(7), lcg.below(3) == 0 ? 99 : near(100));
        change("setPieces", near(blocks), 4 + lcg.below(3), lcg.below(2));
        for (String name : List.of("isMatched", "isSingle", "surfaceNumber")) {
            call(name);
        }
    }

    private int countBlocks() {
        int blocks = 0;
        while (blocks < 8 && ask("edgeOf", blocks, 0) instanceof Integer) {
            blocks++;
        }
        return blocks;
    }

    /** Any calls at all. */
    private static void wildRun(long seed) {
        OracleTest run = new OracleTest(seed);
        for (int k = 0; k < 60; k++) {
            run.randomChange();
            if (k % 5 == 4) {
                run.compareAll(k % 20 == 19);
            }
        }
    }

    /** A few blocks with all faces glued, as it comes, then moves there and back. */
    private static void closedRun(long seed, int blocks) {
        OracleTest run = new OracleTest(seed);
        for (int b = 0; b < blocks; b++) {
            run.change("addBlock");
        }
        boolean odd = run.lcg.below(2) == 0;
        for (int tries = 0; tries < 400 && size(run.ask("openFaces")) > 0; tries++) {
            int order = run.lcg.below(24);
            if (!odd || (order / 6 + order % 6 / 2 + order % 2) % 2 == 1) {
                run.change("glue", run.lcg.below(blocks), run.lcg.below(4), run.lcg.below(blocks), order);
            }
        }
        run.log.removeIf(s -> s.contains("throws"));
        run.compareAll(true);
        for (int k = 0; k < 12; k++) {
            int edges = size(run.ask("edges"));
            int corners = size(run.ask("corners"));
            int now = run.countBlocks();
            int pick = run.lcg.below(6);
            if (pick < 2) {
                run.change("twoForThree", run.lcg.below(now), run.lcg.below(4));
            } else if (pick == 2) {
                run.change("oneForFour", run.lcg.below(now));
            } else if (pick == 3) {
                for (int e = 0; e < edges; e++) {
                    if (run.change("threeForTwo", e) instanceof Integer) {
                        break;
                    }
                }
            } else if (pick == 4) {
                for (int c = 0; c < corners; c++) {
                    if (run.change("fourForOne", c) instanceof Integer) {
                        break;
                    }
                }
            } else {
                run.change("putLink", run.lcg.below(corners));
            }
            run.compareAll(k == 11);
        }
    }

    public static void main(String[] args) {
        int times = args.length > 0 ? Integer.parseInt(args[0]) : 1;
        for (int seed = 1; seed <= 60 * times; seed++) {
            wildRun(seed);
        }
        for (int seed = 1; seed <= 60 * times; seed++) {
            closedRun(seed, 1 + seed % 4);
        }
        if (args.length > 0) {
            new java.util.TreeMap<>(seen).forEach((k, v) -> System.out.println(k + ": " + v));
        }
        System.out.println("OracleTest: " + compared + " answers compared, " + wrong + " wrong");
        if (wrong != 0) {
            System.exit(1);
        }
    }
}

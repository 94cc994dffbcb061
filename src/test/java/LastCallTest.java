import java.lang.reflect.InvocationTargetException;
import java.lang.reflect.Method;
import java.lang.reflect.Modifier;
import java.util.ArrayList;
import java.util.List;
import java.util.Set;
import java.util.TreeMap;
import java.util.TreeSet;

/**
 * An object is used for at most 512 calls: runs of just as many, of all calls of the face mixed, each answer as Oracle
 * has it, up to the last one. Each call of the face is the last one of some runs.
 */
public final class LastCallTest {
    private static final int CALLS = 512;
    private static final int CLOSING = 60;
    private static final int RUNS_OF_EACH = 2;
    private static final TreeMap<String, Method> OURS = methods(Tetrahedry.class);
    private static final TreeMap<String, Method> THEIRS = methods(Oracle.class);
    private static final TreeSet<String> ANSWERED = new TreeSet<>();

    private final Tetrahedry ours = new Tetrahedry();
    private final Oracle theirs = new Oracle();
    private final Lcg lcg;
    private int calls;
    private int blocks;

    private LastCallTest(long seed) {
        lcg = new Lcg(seed);
    }

    private static TreeMap<String, Method> methods(Class<?> type) {
        TreeMap<String, Method> all = new TreeMap<>();
        for (Method m : type.getDeclaredMethods()) {
            boolean open = type == Oracle.class ? !Modifier.isPrivate(m.getModifiers()) : Modifier.isPublic(m.getModifiers());
            if (open && !m.isSynthetic()) {
                all.put(m.getName(), m);
            }
        }
        return all;
    }

    private static Object answer(Method m, Object on, Object[] args) {
        try {
            return m.invoke(on, args);
        } catch (InvocationTargetException e) {
            return "throws " + e.getCause().getClass().getName();
        } catch (IllegalAccessException e) {
            throw new Error(e);
        }
    }

    private Object call(String name, int... numbers) {
        Object[] args = new Object[numbers.length];
        for (int k = 0; k < args.length; k++) {
            args[k] = numbers[k];
        }
        calls++;
        Object due = answer(THEIRS.get(name), theirs, args);
        Object got = answer(OURS.get(name), ours, args);
        Check.tell("call " + calls + ", " + name + List.of(args), due, got);
        if (got instanceof Integer) {
            count(name, (Integer) got);
        }
        if (calls == CALLS && !got.toString().startsWith("throws")) {
            ANSWERED.add(name);
        }
        return got;
    }

    private void count(String name, int answer) {
        if (name.equals("addBlock")) {
            blocks = answer + 1;
        } else if (name.equals("clear")) {
            blocks = 0;
        } else if (Set.of("undo", "twoForThree", "threeForTwo", "oneForFour", "fourForOne").contains(name)) {
            blocks = answer;
        }
    }

    private int near(int bound) {
        return lcg.below(30) == 0 ? lcg.below(bound + 2) - 1 : lcg.below(Math.max(1, bound));
    }

    /** Arguments that are mostly in the range of the call as things stand. */
    private void callNear(String name) {
        int edges = theirs.edges();
        int corners = theirs.corners();
        switch (name) {
            case "glue": call(name, near(blocks), near(4), near(blocks), near(24)); break;
            case "setPieces": call(name, near(blocks), near(7), near(100)); break;
            case "edgeOf": call(name, near(blocks), near(6)); break;
            case "unglue": case "gluedTo": case "gluedBy": case "cornerOf": case "twoForThree":
                call(name, near(blocks), near(4)); break;
            case "relatorAt": call(name, near(edges), near(3)); break;
            case "edgeDegree": case "isReversed": case "isInner": case "threeForTwo": case "relatorLength":
                call(name, near(edges)); break;
            case "cornerDegree": case "linkNumber": case "link": case "fourForOne": case "putLink":
                call(name, near(corners)); break;
            case "codeAt": call(name, near(20)); break;
            case "keepCode": case "isKept": call(name, near(3)); break;
            case "twistAt": call(name, near(2)); break;
            case "oneForFour": call(name, near(blocks)); break;
            default: call(name);
        }
    }

    private String anyName() {
        switch (lcg.below(8)) {
            case 0: case 1: return "glue";
            case 2: return blocks < 2 + lcg.below(6) ? "addBlock" : "undo";
            case 3: return List.of("twoForThree", "oneForFour", "threeForTwo", "fourForOne").get(lcg.below(4));
            default: break;
        }
        String name = new ArrayList<>(OURS.keySet()).get(lcg.below(OURS.size()));
        // 64 ways to the power of three are many for Oracle; clear is left for where it is the last call
        boolean slow = name.equals("countThin") && blocks == 3 || name.equals("countFlat") && blocks > 5;
        return slow || name.equals("clear") && lcg.below(40) > 0 ? "checksum" : name;
    }

    private void live(String last) {
        while (calls < CALLS - CLOSING) {
            callNear(anyName());
        }
        // the bench is glued more than it is opened, so that inner edges, kinds and twists are there
        while (calls < CALLS - 1) {
            callNear(lcg.below(3) > 0 ? "glue" : "holes");
        }
        callNear(last);
    }

    /** The end is a block with a twist, opened or parted in four if the last call wants it so. */
    private void liveToTheTwist(String last) {
        while (calls < CALLS - 6) {
            callNear(anyName());
        }
        callNear("clear");
        callNear("addBlock");
        call("glue", 0, 0, 0, 9);
        if (last.equals("glue")) {
            call("unglue", 0, 0);
        } else {
            call("glue", 0, 2, 0, 13);
        }
        callNear(last.equals("fourForOne") || last.equals("threeForTwo") ? "oneForFour" : "isSound");
        if (last.equals("fourForOne")) {
            call(last, 0);
        } else {
            callNear(last);
        }
    }

    public static void main(String[] args) {
        long seed = 1;
        for (String last : OURS.keySet()) {
            for (int run = 0; run < RUNS_OF_EACH; run++) {
                new LastCallTest(seed++).live(last);
                new LastCallTest(seed++).liveToTheTwist(last);
            }
            Check.tell("was answered as the last call: " + last, true, ANSWERED.contains(last));
        }
        Check.tell("calls of the face", 47, OURS.size());
        Check.end("LastCallTest");
    }
}

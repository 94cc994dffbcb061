import java.util.ArrayList;
import java.util.List;
import java.util.NoSuchElementException;

/**
 * A bench that is made anew by the same calls as often as it is asked: so no object gets more than its 512 calls, and
 * a question that changes something spoils no other one.
 */
final class Bench {
    interface Steps {
        void on(Tetrahedry x);
    }

    interface Call {
        Object on(Tetrahedry x);
    }

    private static final class Question {
        final String text;
        final Call call;

        Question(String text, Call call) {
            this.text = text;
            this.call = call;
        }
    }

    /** So many questions, calls that are refused before them and steps stay below 512 calls. */
    private static final int CHUNK = 220;
    private static final List<Question> WHOLE = ofTheWhole();
    private static final List<Question> PLAIN = plainQuestions();
    private static final List<Question> SPOILING = spoilingQuestions();

    final String name;
    final int blocks;
    private final Steps steps;
    private List<String> answers;

    /** The steps' name, and how many blocks there are after them. */
    Bench(String name, int blocks, Steps steps) {
        this.name = name;
        this.blocks = blocks;
        this.steps = steps;
    }

    Tetrahedry make() {
        Tetrahedry x = new Tetrahedry();
        steps.on(x);
        return x;
    }

    static String answer(Call call, Tetrahedry x) {
        try {
            return String.valueOf(call.on(x));
        } catch (RuntimeException e) {
            return "throws " + e.getClass().getName();
        }
    }

    /** Each of the calls throws just this, and every other call then answers as if they had not been. */
    void refuses(String what, Class<? extends RuntimeException> want, Call... calls) {
        Tetrahedry x = make();
        for (Call call : calls) {
            Check.tell(what + " on " + name, "throws " + want.getName(), answer(call, x));
        }
        staysAfter(what, calls);
    }

    /** Every other call answers as if these had not been. */
    void staysAfter(String what, Call... calls) {
        if (answers == null) {
            answers = ask(false);
        }
        for (boolean asked : new boolean[] {false, true}) {
            List<String> got = ask(asked, calls);
            int at = 0;
            while (at < got.size() - 1 && got.get(at).equals(answers.get(at))) {
                at++;
            }
            Check.tell(what + " on " + name + ", then", answers.get(at), got.get(at));
        }
    }

    /** All answers that are no matter of codes that are kept, after these steps of another bench, all asked and clear. */
    void answersAlikeAfter(Bench earlier) {
        if (answers == null) {
            answers = ask(false);
        }
        List<String> got = new Bench("", blocks, x -> {
            earlier.steps.on(x);
            askWhole(x);
            x.clear();
            steps.on(x);
        }).ask(false);
        for (int at = 0; at < got.size(); at++) {
            if (!got.get(at).contains("ept") && !got.get(at).equals(answers.get(at))) {
                Check.tell(name + " behind " + earlier.name, answers.get(at), got.get(at));
                return;
            }
        }
        Check.tell(name + " behind " + earlier.name, answers.size(), got.size());
    }

    /** A change that is undone, all being asked between: all answers are as before, but that there are no pieces. */
    void answersAlikeUndone(String what, Call change) {
        Tetrahedry x = make();
        if (answer(change, x).startsWith("throws")) {
            return;
        }
        List<String> due = new Bench("", blocks, y -> {
            steps.on(y);
            pieces(y);
        }).ask(false);
        List<String> got = new Bench("", blocks, y -> {
            steps.on(y);
            askWhole(y);
            answer(change, y);
            askWhole(y);
            y.undo();
        }).ask(false);
        for (int at = 0; at < due.size(); at++) {
            if (!due.get(at).startsWith("what is undone") && !due.get(at).equals(got.get(at))) {
                Check.tell(what + " undone on " + name, due.get(at), got.get(at));
                return;
            }
        }
        Check.tell(what + " undone on " + name, due.size(), got.size());
    }

    private static void askWhole(Tetrahedry x) {
        for (Question question : WHOLE) {
            answer(question.call, x);
        }
    }

    /** All answers after the calls; where it is wanted, questions of the whole were asked before them, too. */
    private List<String> ask(boolean before, Call... calls) {
        List<String> all = new ArrayList<>();
        Tetrahedry x = make();
        for (int at = 0; at < PLAIN.size() + SPOILING.size(); at++) {
            if (at % CHUNK == 0 || at >= PLAIN.size()) {
                x = make();
                if (before) {
                    askWhole(x);
                }
                for (Call call : calls) {
                    answer(call, x);
                }
            }
            Question question = at < PLAIN.size() ? PLAIN.get(at) : SPOILING.get(at - PLAIN.size());
            all.add(question.text + " = " + answer(question.call, x));
        }
        return all;
    }

    private static List<Question> ofTheWhole() {
        List<Question> all = new ArrayList<>();
        all.add(new Question("parts()", x -> x.parts()));
        all.add(new Question("isAlikeTurned()", x -> x.isAlikeTurned()));
        all.add(new Question("kind()", x -> x.kind()));
        all.add(new Question("number()", x -> x.number()));
        all.add(new Question("openFaces()", x -> x.openFaces()));
        all.add(new Question("edges()", x -> x.edges()));
        all.add(new Question("corners()", x -> x.corners()));
        all.add(new Question("codeLength()", x -> x.codeLength()));
        all.add(new Question("generators()", x -> x.generators()));
        all.add(new Question("relatorLength(0)", x -> x.relatorLength(0)));
        all.add(new Question("holes()", x -> x.holes()));
        all.add(new Question("twists()", x -> x.twists()));
        all.add(new Question("countFlat()", x -> x.countFlat()));
        all.add(new Question("isMatched()", x -> x.isMatched()));
        all.add(new Question("isSingle()", x -> x.isSingle()));
        all.add(new Question("surfaceNumber()", x -> x.surfaceNumber()));
        all.add(new Question("countThin()", x -> x.countThin()));
        all.add(new Question("gluedShare()", x -> x.gluedShare()));
        all.add(new Question("meanDegree()", x -> x.meanDegree()));
        all.add(new Question("checksum()", x -> x.checksum()));
        all.add(new Question("isSound()", x -> x.isSound()));
        return all;
    }

    private static List<Question> plainQuestions() {
        List<Question> all = new ArrayList<>(WHOLE);
        for (int b = 0; b < 9; b++) {
            for (int k = 0; k < 6; k++) {
                addOfBlock(all, b, k);
            }
        }
        for (int n = 0; n < 49; n++) {
            addOfNumber(all, n);
        }
        for (int at = 0; at < 84; at++) {
            int index = at;
            all.add(new Question("codeAt(" + at + ")", x -> x.codeAt(index)));
        }
        for (int slot = 0; slot < 3; slot++) {
            int which = slot;
            all.add(new Question("isKept(" + slot + ")", x -> x.isKept(which)));
        }
        return all;
    }

    private static void addOfBlock(List<Question> all, int b, int k) {
        all.add(new Question("edgeOf(" + b + ", " + k + ")", x -> x.edgeOf(b, k)));
        all.add(new Question("cornerOf(" + b + ", " + k + ")", x -> x.cornerOf(b, k)));
        all.add(new Question("gluedTo(" + b + ", " + k + ")", x -> x.gluedTo(b, k)));
        all.add(new Question("gluedBy(" + b + ", " + k + ")", x -> x.gluedBy(b, k)));
    }

    private static void addOfNumber(List<Question> all, int n) {
        all.add(new Question("edgeDegree(" + n + ")", x -> x.edgeDegree(n)));
        all.add(new Question("isReversed(" + n + ")", x -> x.isReversed(n)));
        all.add(new Question("isInner(" + n + ")", x -> x.isInner(n)));
        all.add(new Question("relatorLength(" + n + ")", x -> x.relatorLength(n)));
        for (int at = 0; at < 4; at++) {
            int index = at;
            all.add(new Question("relatorAt(" + n + ", " + at + ")", x -> x.relatorAt(n, index)));
        }
        all.add(new Question("cornerDegree(" + n + ")", x -> x.cornerDegree(n)));
        all.add(new Question("linkNumber(" + n + ")", x -> x.linkNumber(n)));
        all.add(new Question("link(" + n + ")", x -> x.link(n)));
        all.add(new Question("twistAt(" + n + ")", x -> x.twistAt(n)));
    }

    private static List<Question> spoilingQuestions() {
        List<Question> all = new ArrayList<>();
        all.add(new Question("pieces", Bench::pieces));
        all.add(new Question("codes kept", Bench::keptCodes));
        all.add(new Question("what is undone", Bench::undone));
        all.add(new Question("blocks that can still come", Bench::room));
        return all;
    }

    static Object pieces(Tetrahedry x) {
        List<Integer> all = new ArrayList<>();
        for (int b = 0; b < 8; b++) {
            for (int kind = 0; kind < 7; kind++) {
                try {
                    all.add(x.setPieces(b, kind, 0));
                } catch (IndexOutOfBoundsException e) {
                    return all;
                }
            }
        }
        return all;
    }

    /** Whether something is kept, and whether it is one of four codes. */
    static Object keptCodes(Tetrahedry x) {
        List<String> all = new ArrayList<>();
        x.clear();
        x.addBlock();
        askKept(all, x);
        x.glue(0, 0, 0, 6);
        askKept(all, x);
        x.glue(0, 2, 0, 1);
        askKept(all, x);
        x.clear();
        x.addBlock();
        x.addBlock();
        for (int face = 0; face < 4; face++) {
            x.glue(0, face, 1, 0);
        }
        askKept(all, x);
        return all;
    }

    private static void askKept(List<String> all, Tetrahedry x) {
        for (int slot = 0; slot < 3; slot++) {
            int which = slot;
            all.add(answer(y -> y.isKept(which), x));
        }
    }

    static Object undone(Tetrahedry x) {
        List<Object> all = new ArrayList<>();
        for (int k = 0; k < 20; k++) {
            try {
                all.add(x.undo());
            } catch (NoSuchElementException e) {
                return all;
            }
            all.add(x.checksum());
        }
        return all;
    }

    static Object room(Tetrahedry x) {
        List<Object> all = new ArrayList<>();
        for (int k = 0; k < 20; k++) {
            try {
                all.add(x.addBlock());
            } catch (IllegalStateException e) {
                return all;
            }
            all.add(x.checksum());
        }
        return all;
    }

    /**
     * Numbers just and far out of a range, also such as come back into it where they are multiplied by the length of a
     * row and wrap around, or are cut off to fewer bits.
     */
    static int[] outside(int low, int high) {
        int[] far = {Integer.MIN_VALUE, Integer.MIN_VALUE + 1, -1431655765, -(1 << 30), -(1 << 29), -1000000, -65536,
            -256, -100, -24, -8, -7, -6, -4, -3, -2, -1, 1, 2, 3, 4, 5, 6, 7, 8, 9, 16, 23, 24, 25, 32, 48, 64, 99,
            100, 101, 127, 128, 255, 256, 257, 65535, 65536, 1000000, 134217728, 178956971, 268435456, 536870912,
            613566757, 715827883, 1073741824, Integer.MAX_VALUE - 1, Integer.MAX_VALUE, low - 1, high + 1};
        int[] out = new int[far.length];
        int count = 0;
        for (int number : far) {
            if (number < low || number > high) {
                out[count++] = number;
            }
        }
        return java.util.Arrays.copyOf(out, count);
    }

    interface WithNumber {
        Object on(Tetrahedry x, int number);
    }

    /** The call with each number that is out of a range. */
    static Call[] outside(int low, int high, WithNumber call) {
        int[] numbers = outside(low, high);
        Call[] calls = new Call[numbers.length];
        for (int k = 0; k < numbers.length; k++) {
            int number = numbers[k];
            calls[k] = x -> call.on(x, number);
        }
        return calls;
    }

    static Tetrahedry space(int blocks, int... rows) {
        return glued("", blocks, rows).make();
    }

    static boolean isGlued(Tetrahedry x, int block, int face) {
        try {
            x.gluedTo(block, face);
            return true;
        } catch (NoSuchElementException e) {
            return false;
        }
    }

    interface WithFace {
        Object on(Tetrahedry x, int block, int face);
    }

    /** The call with each face of blocks that is glued, or open. */
    Call[] eachFace(boolean wantGlued, WithFace call) {
        List<Call> calls = new ArrayList<>();
        for (int at = 0; at < 4 * blocks; at++) {
            int block = at / 4;
            int face = at % 4;
            if (isGlued(make(), block, face) == wantGlued) {
                calls.add(x -> call.on(x, block, face));
            }
        }
        return calls.toArray(new Call[0]);
    }

    /** Rows of four numbers: block, face, other, order. */
    static void glueAll(Tetrahedry x, int blocks, int... rows) {
        for (int k = 0; k < blocks; k++) {
            x.addBlock();
        }
        for (int k = 0; k < rows.length; k += 4) {
            x.glue(rows[k], rows[k + 1], rows[k + 2], rows[k + 3]);
        }
    }

    static Bench glued(String name, int blocks, int... rows) {
        return new Bench(name, blocks, x -> glueAll(x, blocks, rows));
    }

    static Bench loose(int blocks) {
        return glued(blocks + " loose blocks", blocks);
    }

    static Bench none() {
        return new Bench("a new bench", 0, x -> { });
    }

    /** Nothing is left but codes that are kept. */
    static Bench cleared() {
        return new Bench("a cleared bench", 0, x -> {
            glueAll(x, 1, 0, 0, 0, 6);
            x.keepCode(0);
            x.glue(0, 2, 0, 1);
            x.keepCode(2);
            x.clear();
        });
    }

    /** The document's second example: a face is glued to another one of the same block. */
    static Bench folded() {
        return new Bench("a block on itself", 1, x -> {
            glueAll(x, 1, 0, 0, 0, 6);
            x.keepCode(1);
            x.setPieces(0, 5, 99);
            x.setPieces(0, 2, 1);
        });
    }

    /** By 1032 the edge 23 lies on itself the other way round. */
    static Bench reversed() {
        return glued("an edge on itself", 1, 0, 0, 0, 7, 0, 2, 0, 1);
    }

    static Bench sphere() {
        return new Bench("a sphere", 2, x -> {
            glueAll(x, 2, 0, 0, 1, 0, 0, 1, 1, 0, 0, 2, 1, 0, 0, 3, 1, 0);
            x.keepCode(0);
            x.putLink(2);
            x.setPieces(0, 4, 3);
            x.setPieces(1, 4, 3);
        });
    }

    /** Five blocks in four parts, with pieces that do not match, and a code of one of the parts kept. */
    static Bench several() {
        return new Bench("several parts", 5, x -> {
            glueAll(x, 1, 0, 0, 0, 6, 0, 2, 0, 1);
            x.keepCode(1);
            glueAll(x, 4, 1, 0, 1, 7, 4, 2, 2, 9);
            x.setPieces(2, 5, 3);
            x.setPieces(2, 6, 1);
            x.setPieces(4, 0, 99);
        });
    }

    static Bench full() {
        return new Bench("8 loose blocks", 8, x -> {
            glueAll(x, 8);
            for (int kind = 0; kind < 7; kind++) {
                x.setPieces(7, kind, 99);
            }
        });
    }

    /** Eight blocks in a ring, each glued to the next one round an edge; all faces are glued. */
    static Bench ring() {
        return new Bench("a ring of 8", 8, x -> {
            glueAll(x, 8);
            for (int b = 0; b < 8; b++) {
                x.glue(b, 2, (b + 1) % 8, 1);
                x.glue(b, 0, b, 6);
            }
            x.keepCode(2);
            x.putLink(0);
        });
    }

    /** Moves and an undo lie behind, and more changes than can be undone. */
    static Bench moved() {
        return new Bench("a sphere of 6, moved", 6, x -> {
            glueAll(x, 2, 0, 0, 1, 0, 0, 1, 1, 0, 0, 2, 1, 0, 0, 3, 1, 0);
            x.keepCode(1);
            x.unglue(1, 3);
            x.glue(1, 3, 0, 0);
            x.oneForFour(1);
            x.undo();
            x.twoForThree(0, 2);
            x.oneForFour(0);
            x.putLink(0);
        });
    }

    /** Eight blocks of one part, all 48 edges of which lie on each other, and all 32 corners. */
    static final int[] ONE_EDGE = {0, 0, 2, 6, 0, 1, 2, 2, 0, 2, 3, 20, 0, 3, 7, 9, 1, 0, 5, 11, 1, 1, 6, 14, 1, 2, 2, 8,
        1, 3, 4, 1, 2, 3, 7, 5, 3, 1, 6, 4, 3, 2, 4, 15, 3, 3, 5, 2, 4, 0, 5, 14, 4, 1, 7, 4, 5, 0, 7, 15, 6, 0, 6, 15};

    static Bench oneEdge() {
        return glued("48 edges as one", 8, ONE_EDGE);
    }

    /** All these benches, made once, as they keep their answers. */
    static List<Bench> all() {
        return ALL;
    }

    private static final List<Bench> ALL = List.of(none(), cleared(), loose(1), folded(), reversed(), sphere(), several(), full(), ring(),
                oneEdge(), moved());
}

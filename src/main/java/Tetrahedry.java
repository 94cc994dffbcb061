import java.util.NoSuchElementException;

/** A bench of spaces glued from tetrahedra. README.md tells how it is used. */
public final class Tetrahedry {
    private final Gluings gluings;
    private final Past past;
    private final Cells cells;
    private final Codes codes;
    private final Moves moves;
    private final Group group;
    private final Angles angles;
    private final Pieces pieces;

    public Tetrahedry() {
        gluings = new Gluings();
        past = new Past();
        cells = new Cells(gluings);
        codes = new Codes(gluings);
        moves = new Moves(gluings);
        group = new Group(gluings, cells);
        angles = new Angles(gluings, cells);
        pieces = new Pieces(gluings, cells);
    }

    public int addBlock() throws IllegalStateException {
        if (gluings.count >= Gluings.MOST) {
            throw new IllegalStateException("no more blocks");
        }
        past.keep(gluings);
        pieces.takeAll();
        gluings.addOpen();
        return gluings.count - 1;
    }

    public int clear() {
        int before = gluings.count;
        gluings.takeAll();
        past.forget();
        pieces.takeAll();
        return before;
    }

    public int glue(int block, int face, int other, int order)
            throws IndexOutOfBoundsException, IllegalArgumentException, UnsupportedOperationException {
        needBlock(block);
        needBlock(other);
        needBelow(face, Shape.CORNERS);
        needBelow(order, Shape.ORDERS);
        int across = Shape.at(order, face);
        boolean same = block == other && face == across;
        if (same || !gluings.isOpen(block, face) || !gluings.isOpen(other, across)) {
            throw new UnsupportedOperationException("these faces cannot be glued");
        }
        past.keep(gluings);
        gluings.join(block, face, other, order);
        return across;
    }

    public int unglue(int block, int face)
            throws IndexOutOfBoundsException, IllegalArgumentException, NoSuchElementException {
        needGlued(block, face);
        int other = gluings.otherOf(block, face);
        past.keep(gluings);
        gluings.part(block, face);
        return other;
    }

    public int gluedTo(int block, int face)
            throws IndexOutOfBoundsException, IllegalArgumentException, NoSuchElementException {
        needGlued(block, face);
        return gluings.otherOf(block, face);
    }

    public int gluedBy(int block, int face)
            throws IndexOutOfBoundsException, IllegalArgumentException, NoSuchElementException {
        needGlued(block, face);
        return gluings.orderOf(block, face);
    }

    public int undo() throws NoSuchElementException {
        if (past.kept == 0) {
            throw new NoSuchElementException("nothing can be undone");
        }
        past.restore(gluings);
        pieces.takeAll();
        return gluings.count;
    }

    public int parts() {
        cells.renew();
        return cells.wholes.classes;
    }

    public boolean isAlikeTurned() {
        cells.renew();
        return cells.areBlocksTurned();
    }

    public char kind() {
        cells.renew();
        return cells.kindOfSpace();
    }

    public int number() {
        cells.renew();
        return cells.numberOfSpace();
    }

    public int openFaces() {
        return gluings.countOpen();
    }

    public int edges() {
        cells.renew();
        return cells.lines.classes;
    }

    public int edgeOf(int block, int edge) throws IndexOutOfBoundsException, IllegalArgumentException {
        needBlock(block);
        needBelow(edge, Shape.EDGES);
        cells.renew();
        return cells.lines.classOf[block * Shape.EDGES + edge];
    }

    public int edgeDegree(int edge) throws IndexOutOfBoundsException {
        needEdge(edge);
        return cells.lines.many[edge];
    }

    public boolean isReversed(int edge) throws IndexOutOfBoundsException {
        needEdge(edge);
        return cells.isTurnedRound(edge);
    }

    public boolean isInner(int edge) throws IndexOutOfBoundsException {
        needEdge(edge);
        return !cells.lineOpen[edge];
    }

    public int corners() {
        cells.renew();
        return cells.tips.classes;
    }

    public int cornerOf(int block, int corner) throws IndexOutOfBoundsException, IllegalArgumentException {
        needBlock(block);
        needBelow(corner, Shape.CORNERS);
        cells.renew();
        return cells.tips.classOf[block * Shape.CORNERS + corner];
    }

    public int cornerDegree(int corner) throws IndexOutOfBoundsException {
        needCorner(corner);
        return cells.tips.many[corner];
    }

    public int linkNumber(int corner) throws IndexOutOfBoundsException {
        needCorner(corner);
        return cells.cutNumber[corner];
    }

    public char link(int corner) throws IndexOutOfBoundsException {
        needCorner(corner);
        return cells.kindOfCut(corner);
    }

    public int codeLength() throws UnsupportedOperationException {
        needOnePart();
        codes.renew();
        return codes.length;
    }

    public int codeAt(int index) throws UnsupportedOperationException, NoSuchElementException {
        needOnePart();
        codes.renew();
        needIndex(index, codes.length);
        return codes.least[index];
    }

    public int keepCode(int slot) throws IllegalArgumentException, UnsupportedOperationException {
        needBelow(slot, Codes.SLOTS);
        needOnePart();
        codes.renew();
        codes.keep(slot);
        return codes.length;
    }

    public boolean isKept(int slot)
            throws IllegalArgumentException, UnsupportedOperationException, NoSuchElementException {
        needBelow(slot, Codes.SLOTS);
        needOnePart();
        if (codes.keptLength[slot] == 0) {
            throw new NoSuchElementException("no code is kept there");
        }
        codes.renew();
        return codes.isSameAs(slot);
    }

    public int twoForThree(int block, int face)
            throws IndexOutOfBoundsException, IllegalArgumentException, UnsupportedOperationException {
        needBlock(block);
        needBelow(face, Shape.CORNERS);
        if (gluings.isOpen(block, face) || gluings.otherOf(block, face) == block) {
            throw new UnsupportedOperationException("the face is not between two blocks");
        }
        needRoom(1);
        past.keep(gluings);
        pieces.takeAll();
        moves.splitFace(block, face);
        return gluings.count;
    }

    public int threeForTwo(int edge) throws IndexOutOfBoundsException, UnsupportedOperationException {
        needEdge(edge);
        if (!moves.canDropEdge(cells, edge)) {
            throw new UnsupportedOperationException("the edge is not as the move wants it");
        }
        past.keep(gluings);
        pieces.takeAll();
        moves.dropEdge(cells.lines.lowest[edge]);
        return gluings.count;
    }

    public int oneForFour(int block) throws IndexOutOfBoundsException, UnsupportedOperationException {
        needBlock(block);
        needRoom(3);
        past.keep(gluings);
        pieces.takeAll();
        moves.splitBlock(block);
        return gluings.count;
    }

    public int fourForOne(int corner) throws IndexOutOfBoundsException, UnsupportedOperationException {
        needCorner(corner);
        if (!moves.canDropCorner(cells, corner)) {
            throw new UnsupportedOperationException("the corner is not as the move wants it");
        }
        past.keep(gluings);
        pieces.takeAll();
        moves.dropCorner(cells.tips.lowest[corner]);
        return gluings.count;
    }

    public int generators() {
        group.renew();
        return group.loops;
    }

    public int relatorLength(int edge) throws IndexOutOfBoundsException, UnsupportedOperationException {
        needInner(edge);
        group.renew();
        group.goRound(edge);
        return group.walkLength;
    }

    public int relatorAt(int edge, int index)
            throws IndexOutOfBoundsException, UnsupportedOperationException, NoSuchElementException {
        needInner(edge);
        group.renew();
        group.goRound(edge);
        needIndex(index, group.walkLength);
        return group.walk[index];
    }

    public int holes() {
        group.renew();
        return group.loops - group.table.rank;
    }

    public int twists() {
        group.renew();
        return group.table.countAboveOne();
    }

    public long twistAt(int index) throws NoSuchElementException {
        group.renew();
        int ones = group.table.rank - group.table.countAboveOne();
        needIndex(index, group.table.rank - ones);
        return group.table.inDiagonal(ones + index);
    }

    public int countFlat() {
        return angles.waysOfAll();
    }

    public int setPieces(int block, int kind, int many) throws IndexOutOfBoundsException, IllegalArgumentException {
        needBlock(block);
        needBelow(kind, Pieces.KINDS);
        needBelow(many, Pieces.MOST + 1);
        return pieces.exchange(block, kind, many);
    }

    public int putLink(int corner) throws IndexOutOfBoundsException, UnsupportedOperationException {
        needCorner(corner);
        if (!pieces.hasRoomAt(corner)) {
            throw new UnsupportedOperationException("too many pieces of one kind");
        }
        pieces.addAround(corner);
        return cells.tips.many[corner];
    }

    public boolean isMatched() {
        return pieces.doMatch();
    }

    public boolean isSingle() {
        return pieces.areSingle();
    }

    public int surfaceNumber() throws UnsupportedOperationException {
        if (!pieces.doMatch() || !pieces.areSingle()) {
            throw new UnsupportedOperationException("the pieces are no surface");
        }
        return pieces.numberOfSurface();
    }

    public int countThin() throws UnsupportedOperationException {
        if (gluings.count > Pieces.MOST_BLOCKS_OF_THIN) {
            throw new UnsupportedOperationException("too many blocks");
        }
        return pieces.thinOfAll();
    }

    public float gluedShare() throws ArithmeticException {
        int all = gluings.count * Shape.CORNERS;
        if (all == 0) {
            throw new ArithmeticException("no blocks");
        }
        return (float) (all - gluings.countOpen()) / (float) all;
    }

    public double meanDegree() throws ArithmeticException {
        cells.renew();
        int all = cells.lines.classes;
        if (all == 0) {
            throw new ArithmeticException("no edges");
        }
        return (double) cells.lines.sumOfMany() / (double) all;
    }

    public long checksum() {
        return gluings.sumOfRows();
    }

    public boolean isSound() {
        cells.renew();
        boolean counted = cells.lines.sumOfMany() == gluings.count * Shape.EDGES
                && cells.tips.sumOfMany() == gluings.count * Shape.CORNERS;
        boolean closed = cells.kindOfSpace() == 'c';
        return counted && gluings.isMutual() && (!closed || cells.numberOfSpace() == 0);
    }

    private void needBlock(int block) {
        if (block < 0 || block >= gluings.count) {
            throw new IndexOutOfBoundsException("no such block");
        }
    }

    private void needBelow(int value, int bound) {
        if (value < 0 || value >= bound) {
            throw new IllegalArgumentException("out of range");
        }
    }

    private void needIndex(int index, int length) {
        if (index < 0 || index >= length) {
            throw new NoSuchElementException("nothing has this index");
        }
    }

    private void needGlued(int block, int face) {
        needBlock(block);
        needBelow(face, Shape.CORNERS);
        if (gluings.isOpen(block, face)) {
            throw new NoSuchElementException("the face is open");
        }
    }

    private void needEdge(int edge) {
        cells.renew();
        if (edge < 0 || edge >= cells.lines.classes) {
            throw new IndexOutOfBoundsException("no such edge");
        }
    }

    private void needInner(int edge) {
        needEdge(edge);
        if (cells.lineOpen[edge]) {
            throw new UnsupportedOperationException("the edge is not inner");
        }
    }

    private void needCorner(int corner) {
        cells.renew();
        if (corner < 0 || corner >= cells.tips.classes) {
            throw new IndexOutOfBoundsException("no such corner");
        }
    }

    private void needOnePart() {
        cells.renew();
        if (cells.wholes.classes != 1) {
            throw new UnsupportedOperationException("not just one part");
        }
    }

    private void needRoom(int more) {
        if (gluings.count + more > Gluings.MOST) {
            throw new UnsupportedOperationException("there would be too many blocks");
        }
    }

    /** What every block has alike: orders of its corners, and edges. */
    private static final class Shape {
        static final int CORNERS = 4;
        static final int EDGES = 6;
        static final int ORDERS = 24;
        private static final int[] ROWS = {
            0, 1, 2, 3, 0, 1, 3, 2, 0, 2, 1, 3, 0, 2, 3, 1, 0, 3, 1, 2, 0, 3, 2, 1,
            1, 0, 2, 3, 1, 0, 3, 2, 1, 2, 0, 3, 1, 2, 3, 0, 1, 3, 0, 2, 1, 3, 2, 0,
            2, 0, 1, 3, 2, 0, 3, 1, 2, 1, 0, 3, 2, 1, 3, 0, 2, 3, 0, 1, 2, 3, 1, 0,
            3, 0, 1, 2, 3, 0, 2, 1, 3, 1, 0, 2, 3, 1, 2, 0, 3, 2, 0, 1, 3, 2, 1, 0};
        private static final int[] LOW_ENDS = {0, 0, 0, 1, 1, 2};
        private static final int[] HIGH_ENDS = {1, 2, 3, 2, 3, 3};
        private static final int[] EDGES_BY_ENDS = {0, 0, 1, 2, 0, 0, 3, 4, 1, 3, 0, 5, 2, 4, 5, 0};

        static int at(int order, int k) {
            return ROWS[order * CORNERS + k];
        }

        static int placeOf(int order, int corner) {
            int place = 0;
            for (int k = 0; k < CORNERS; k++) {
                if (at(order, k) == corner) {
                    place = k;
                }
            }
            return place;
        }

        /** The fourth number of an order follows from the first three. */
        static int orderWith(int first, int second, int third) {
            int secondRank = second - (first < second ? 1 : 0);
            int thirdRank = third - (first < third ? 1 : 0) - (second < third ? 1 : 0);
            return first * 6 + secondRank * 2 + thirdRank;
        }

        static int chain(int first, int then) {
            return orderWith(at(then, at(first, 0)), at(then, at(first, 1)), at(then, at(first, 2)));
        }

        static int inverse(int order) {
            return orderWith(placeOf(order, 0), placeOf(order, 1), placeOf(order, 2));
        }

        static int exchange(int one, int other) {
            return orderWith(exchanged(one, other, 0), exchanged(one, other, 1), exchanged(one, other, 2));
        }

        private static int exchanged(int one, int other, int k) {
            if (k == one) {
                return other;
            }
            return k == other ? one : k;
        }

        /** The ranks in an order's number count the exchanges that make it. */
        static boolean isOdd(int order) {
            return (order / 6 + order % 6 / 2 + order % 2) % 2 == 1;
        }

        static int lowEnd(int edge) {
            return LOW_ENDS[edge];
        }

        static int highEnd(int edge) {
            return HIGH_ENDS[edge];
        }

        static int edgeWith(int one, int other) {
            return EDGES_BY_ENDS[one * CORNERS + other];
        }

        /** The edges 5 to 3 are those across from the edges 0 to 2. */
        static int across(int edge) {
            return EDGES - 1 - edge;
        }

        static int pairOf(int edge) {
            return edge < 3 ? edge : across(edge);
        }

        static int cornerOfFace(int face, int k) {
            return k < face ? k : k + 1;
        }
    }

    /** The blocks: a row has for each face -1, or 24 times the other block and the order. */
    private static final class Gluings {
        static final int MOST = 8;
        static final int MOST_FACES = 32;
        final int[] rows = new int[MOST_FACES];
        int count;
        int version;

        void addOpen() {
            for (int face = 0; face < Shape.CORNERS; face++) {
                rows[count * Shape.CORNERS + face] = -1;
            }
            count++;
            version++;
        }

        void takeAll() {
            count = 0;
            version++;
        }

        void load(int[] from, int start, int blocks) {
            System.arraycopy(from, start, rows, 0, MOST_FACES);
            count = blocks;
            version++;
        }

        boolean isOpen(int block, int face) {
            return rows[block * Shape.CORNERS + face] < 0;
        }

        int otherOf(int block, int face) {
            return rows[block * Shape.CORNERS + face] / Shape.ORDERS;
        }

        int orderOf(int block, int face) {
            return rows[block * Shape.CORNERS + face] % Shape.ORDERS;
        }

        void join(int block, int face, int other, int order) {
            int across = Shape.at(order, face);
            rows[block * Shape.CORNERS + face] = other * Shape.ORDERS + order;
            rows[other * Shape.CORNERS + across] = block * Shape.ORDERS + Shape.inverse(order);
            version++;
        }

        void part(int block, int face) {
            int other = otherOf(block, face);
            int across = Shape.at(orderOf(block, face), face);
            rows[block * Shape.CORNERS + face] = -1;
            rows[other * Shape.CORNERS + across] = -1;
            version++;
        }

        /** Each pair of glued faces is told once, by the side of the lower block, then lower face. */
        boolean isLowerSide(int block, int face) {
            if (isOpen(block, face)) {
                return false;
            }
            int other = otherOf(block, face);
            return block < other || block == other && face < Shape.at(orderOf(block, face), face);
        }

        int countOpen() {
            int open = 0;
            for (int at = 0; at < count * Shape.CORNERS; at++) {
                open += rows[at] < 0 ? 1 : 0;
            }
            return open;
        }

        long sumOfRows() {
            long sum = 7;
            for (int at = 0; at < count * Shape.CORNERS; at++) {
                sum = sum * 31 + (rows[at] < 0 ? 0 : rows[at] + Shape.ORDERS);
            }
            return sum;
        }

        boolean isMutual() {
            boolean mutual = true;
            for (int at = 0; at < count * Shape.CORNERS; at++) {
                mutual = mutual && (rows[at] < 0 || isAnswered(at / Shape.CORNERS, at % Shape.CORNERS));
            }
            return mutual;
        }

        private boolean isAnswered(int block, int face) {
            int other = otherOf(block, face);
            int order = orderOf(block, face);
            int across = Shape.at(order, face);
            return other < count
                    && rows[other * Shape.CORNERS + across] == block * Shape.ORDERS + Shape.inverse(order);
        }
    }

    /** The blocks as they were before each of the last changes, the oldest one giving way. */
    private static final class Past {
        private static final int MOST = 8;
        private final int[] rows = new int[MOST * Gluings.MOST_FACES];
        private final int[] counts = new int[MOST];
        private int next;
        int kept;

        void keep(Gluings gluings) {
            System.arraycopy(gluings.rows, 0, rows, next * Gluings.MOST_FACES, Gluings.MOST_FACES);
            counts[next] = gluings.count;
            next = (next + 1) % MOST;
            kept = Math.min(kept + 1, MOST);
        }

        void restore(Gluings gluings) {
            next = (next + MOST - 1) % MOST;
            kept--;
            gluings.load(rows, next * Gluings.MOST_FACES, counts[next]);
        }

        void forget() {
            kept = 0;
        }
    }

    /** Things that lie on each other: each class is led by the lowest one in it, and numbered by that. */
    private static final class Joins {
        private final int[] lower;
        final int[] classOf;
        final int[] lowest;
        final int[] many;
        private int things;
        int classes;

        Joins(int most) {
            lower = new int[most];
            classOf = new int[most];
            lowest = new int[most];
            many = new int[most];
        }

        void begin(int size) {
            things = size;
            for (int thing = 0; thing < size; thing++) {
                lower[thing] = thing;
            }
        }

        int leaderOf(int thing) {
            int leader = thing;
            for (int step = 0; step < things && lower[leader] != leader; step++) {
                leader = lower[leader];
            }
            return leader;
        }

        boolean areJoined(int one, int other) {
            return leaderOf(one) == leaderOf(other);
        }

        void join(int one, int other) {
            int first = leaderOf(one);
            int second = leaderOf(other);
            lower[Math.max(first, second)] = Math.min(first, second);
        }

        void count() {
            classes = 0;
            for (int thing = 0; thing < things; thing++) {
                int leader = leaderOf(thing);
                if (leader == thing) {
                    lowest[classes] = thing;
                    many[classes] = 0;
                    classOf[thing] = classes;
                    classes++;
                }
                classOf[thing] = classOf[leader];
                many[classOf[thing]]++;
            }
        }

        int sumOfMany() {
            int sum = 0;
            for (int k = 0; k < classes; k++) {
                sum += many[k];
            }
            return sum;
        }
    }

    /** Parts, edges and corners of the space, with the cuts around corners that are their links. */
    private static final class Cells {
        private final Gluings gluings;
        final Joins wholes = new Joins(Gluings.MOST);
        final Joins lines = new Joins(Gluings.MOST * Shape.EDGES);
        final Joins tips = new Joins(Gluings.MOST * Shape.CORNERS);
        /** Ends of edges, by block, by the corner that the end is at, by the corner at the other end. */
        private final Joins ends = new Joins(Gluings.MOST * 16);
        /** Two signs for each block, and for each triangle of a cut: both joined is no way to turn it. */
        private final Joins blockSigns = new Joins(Gluings.MOST * 2);
        private final Joins cutSigns = new Joins(Gluings.MOST * Shape.CORNERS * 2);
        final boolean[] lineOpen = new boolean[Gluings.MOST * Shape.EDGES];
        private final boolean[] cutOpen = new boolean[Gluings.MOST * Shape.CORNERS];
        final int[] cutNumber = new int[Gluings.MOST * Shape.CORNERS];
        private final int[] cutSides = new int[Gluings.MOST * Shape.CORNERS];
        private int seen = -1;

        Cells(Gluings gluings) {
            this.gluings = gluings;
        }

        void renew() {
            if (seen == gluings.version) {
                return;
            }
            seen = gluings.version;
            begin();
            for (int at = 0; at < gluings.count * Shape.CORNERS; at++) {
                if (gluings.isLowerSide(at / Shape.CORNERS, at % Shape.CORNERS)) {
                    joinAt(at / Shape.CORNERS, at % Shape.CORNERS);
                }
            }
            wholes.count();
            lines.count();
            tips.count();
            findOpenLines();
            measureCuts();
        }

        private void begin() {
            int count = gluings.count;
            wholes.begin(count);
            lines.begin(count * Shape.EDGES);
            tips.begin(count * Shape.CORNERS);
            ends.begin(count * 16);
            blockSigns.begin(count * 2);
            cutSigns.begin(count * Shape.CORNERS * 2);
        }

        private void joinAt(int block, int face) {
            int other = gluings.otherOf(block, face);
            int order = gluings.orderOf(block, face);
            wholes.join(block, other);
            joinSigns(blockSigns, block, other, order);
            for (int k = 0; k < 3; k++) {
                int corner = Shape.cornerOfFace(face, k);
                int one = block * Shape.CORNERS + corner;
                int two = other * Shape.CORNERS + Shape.at(order, corner);
                tips.join(one, two);
                joinSigns(cutSigns, one, two, order);
                joinEnds(one, two, face, order);
            }
        }

        private static void joinSigns(Joins signs, int one, int two, int order) {
            int turn = Shape.isOdd(order) ? 0 : 1;
            signs.join(one * 2, two * 2 + turn);
            signs.join(one * 2 + 1, two * 2 + 1 - turn);
        }

        private void joinEnds(int one, int two, int face, int order) {
            int corner = one % Shape.CORNERS;
            for (int k = 0; k < 3; k++) {
                int far = Shape.cornerOfFace(face, k);
                if (far != corner) {
                    int farToo = Shape.at(order, far);
                    ends.join(one * Shape.CORNERS + far, two * Shape.CORNERS + farToo);
                    lines.join(lineAt(one, far), lineAt(two, farToo));
                }
            }
        }

        private static int lineAt(int tip, int far) {
            return tip / Shape.CORNERS * Shape.EDGES + Shape.edgeWith(tip % Shape.CORNERS, far);
        }

        private void findOpenLines() {
            for (int line = 0; line < lines.classes; line++) {
                lineOpen[line] = false;
            }
            for (int at = 0; at < gluings.count * Shape.EDGES; at++) {
                int block = at / Shape.EDGES;
                int across = Shape.across(at % Shape.EDGES);
                if (gluings.isOpen(block, Shape.lowEnd(across)) || gluings.isOpen(block, Shape.highEnd(across))) {
                    lineOpen[lines.classOf[at]] = true;
                }
            }
        }

        private void measureCuts() {
            for (int tip = 0; tip < tips.classes; tip++) {
                cutOpen[tip] = false;
                cutSides[tip] = 0;
                cutNumber[tip] = tips.many[tip];
            }
            for (int at = 0; at < gluings.count * 16; at++) {
                int corner = at / Shape.CORNERS % Shape.CORNERS;
                if (at % Shape.CORNERS != corner) {
                    measureCutAt(at, tips.classOf[at / Shape.CORNERS]);
                }
            }
            for (int tip = 0; tip < tips.classes; tip++) {
                cutNumber[tip] -= cutSides[tip] / 2;
            }
        }

        /** An end of an edge stands for a point, and by its far corner's face for a side, of a triangle. */
        private void measureCutAt(int end, int tip) {
            if (ends.leaderOf(end) == end) {
                cutNumber[tip]++;
            }
            boolean open = gluings.isOpen(end / 16, end % Shape.CORNERS);
            cutSides[tip] += open ? 2 : 1;
            cutOpen[tip] = cutOpen[tip] || open;
        }

        boolean isTurnedRound(int line) {
            int at = lines.lowest[line];
            int block = at / Shape.EDGES;
            int low = Shape.lowEnd(at % Shape.EDGES);
            int high = Shape.highEnd(at % Shape.EDGES);
            return ends.areJoined(block * 16 + low * Shape.CORNERS + high, block * 16 + high * Shape.CORNERS + low);
        }

        boolean areBlocksTurned() {
            boolean turned = true;
            for (int block = 0; block < gluings.count; block++) {
                turned = turned && !blockSigns.areJoined(block * 2, block * 2 + 1);
            }
            return turned;
        }

        char kindOfCut(int tip) {
            int number = cutNumber[tip];
            if (cutOpen[tip]) {
                return number == 1 ? 'd' : 'o';
            }
            if (number == 0) {
                int at = tips.lowest[tip];
                return cutSigns.areJoined(at * 2, at * 2 + 1) ? 'k' : 't';
            }
            return number == 2 ? 's' : 'o';
        }

        char kindOfSpace() {
            boolean bad = gluings.count == 0;
            for (int line = 0; line < lines.classes; line++) {
                bad = bad || isTurnedRound(line);
            }
            char kind = 'c';
            for (int tip = 0; tip < tips.classes; tip++) {
                char cut = kindOfCut(tip);
                bad = bad || cut == 'o';
                if (cut == 't' || cut == 'k') {
                    kind = 'i';
                } else if (cut == 'd' && kind == 'c') {
                    kind = 'b';
                }
            }
            return bad ? '-' : kind;
        }

        int numberOfSpace() {
            int faces = (gluings.count * Shape.CORNERS + gluings.countOpen()) / 2;
            return tips.classes - lines.classes + faces - gluings.count;
        }
    }

    /** The least code, and the codes that are kept. */
    private static final class Codes {
        static final int SLOTS = 3;
        private static final int MOST = 96;
        private final Gluings gluings;
        final int[] least = new int[MOST];
        int length;
        private final int[] row = new int[MOST];
        private int written;
        private boolean isLess;
        private final int[] newNumbers = new int[Gluings.MOST];
        private final int[] byNumber = new int[Gluings.MOST];
        /** For each block the order whose k-th number is the corner that has the name k. */
        private final int[] names = new int[Gluings.MOST];
        private int numbered;
        private final int[] kept = new int[SLOTS * MOST];
        final int[] keptLength = new int[SLOTS];
        private int seen = -1;

        Codes(Gluings gluings) {
            this.gluings = gluings;
        }

        void renew() {
            if (seen == gluings.version) {
                return;
            }
            seen = gluings.version;
            length = 0;
            for (int first = 0; first < gluings.count; first++) {
                for (int order = 0; order < Shape.ORDERS; order++) {
                    tryFrom(first, order);
                }
            }
        }

        /** All rows of a space of one part are as long, so the first one that is written leads till a less one. */
        private void tryFrom(int first, int order) {
            begin(first, order);
            boolean going = true;
            for (int number = 0; number < Gluings.MOST && number < numbered && going; number++) {
                for (int name = 0; name < Shape.CORNERS && going; name++) {
                    going = writeFace(byNumber[number], name);
                }
            }
            if (going && isLess) {
                System.arraycopy(row, 0, least, 0, written);
                length = written;
            }
        }

        private void begin(int first, int order) {
            for (int block = 0; block < gluings.count; block++) {
                newNumbers[block] = -1;
            }
            written = 0;
            numbered = 0;
            isLess = length == 0;
            giveNumber(first, order);
        }

        private void giveNumber(int block, int order) {
            newNumbers[block] = numbered;
            byNumber[numbered] = block;
            names[block] = order;
            numbered++;
        }

        private boolean writeFace(int block, int name) {
            int face = Shape.at(names[block], name);
            if (gluings.isOpen(block, face)) {
                return write(0);
            }
            int other = gluings.otherOf(block, face);
            int reached = Shape.chain(names[block], gluings.orderOf(block, face));
            if (newNumbers[other] < 0) {
                giveNumber(other, reached);
                return write(1);
            }
            return write(2) && write(newNumbers[other])
                    && write(Shape.chain(reached, Shape.inverse(names[other])));
        }

        /** Answers whether the row may still be the least one. */
        private boolean write(int value) {
            if (written >= MOST || !isLess && value > least[written]) {
                return false;
            }
            isLess = isLess || value < least[written];
            row[written] = value;
            written++;
            return true;
        }

        void keep(int slot) {
            System.arraycopy(least, 0, kept, slot * MOST, length);
            keptLength[slot] = length;
        }

        boolean isSameAs(int slot) {
            boolean same = keptLength[slot] == length;
            for (int at = 0; at < length && same; at++) {
                same = kept[slot * MOST + at] == least[at];
            }
            return same;
        }
    }

    /** Moves: outer faces of blocks that go are handed to new blocks, and with them what they are glued to. */
    private static final class Moves {
        private final Gluings gluings;
        /** Where a block that stays comes; -1 if it goes. */
        private final int[] places = new int[Gluings.MOST];
        private int staying;
        /** For faces of blocks that go: the new block that gets it, or -1, and to which of its corners corners go. */
        private final int[] takers = new int[Gluings.MOST_FACES];
        private final int[] takenBy = new int[Gluings.MOST_FACES];
        private final int[] rows = new int[Gluings.MOST_FACES];

        Moves(Gluings gluings) {
            this.gluings = gluings;
        }

        void splitFace(int block, int face) {
            int other = gluings.otherOf(block, face);
            int order = gluings.orderOf(block, face);
            begin();
            take(block);
            take(other);
            for (int k = 0; k < 3; k++) {
                int without = Shape.cornerOfFace(face, k);
                int rest = Shape.cornerOfFace(face, k == 0 ? 1 : 0);
                hand(block, 0, without, k, Shape.orderWith(face, without, rest));
                hand(other, order, without, k, Shape.orderWith(without, face, rest));
            }
            carryOver();
            joinNew(0, 2, 1, 0);
            joinNew(0, 3, 2, Shape.exchange(2, 3));
            joinNew(1, 3, 2, 0);
            gluings.load(rows, 0, staying + 3);
        }

        boolean canDropEdge(Cells cells, int line) {
            if (cells.lineOpen[line] || cells.lines.many[line] != 3 || cells.isTurnedRound(line)) {
                return false;
            }
            int at = cells.lines.lowest[line];
            int block = at / Shape.EDGES;
            int across = Shape.across(at % Shape.EDGES);
            int second = gluings.otherOf(block, Shape.lowEnd(across));
            int third = gluings.otherOf(block, Shape.highEnd(across));
            return block != second && block != third && second != third;
        }

        void dropEdge(int at) {
            int block = at / Shape.EDGES;
            int edge = at % Shape.EDGES;
            int low = Shape.lowEnd(Shape.across(edge));
            int high = Shape.highEnd(Shape.across(edge));
            begin();
            take(block);
            take(gluings.otherOf(block, low));
            take(gluings.otherOf(block, high));
            handAtEnd(block, edge, Shape.lowEnd(edge), Shape.highEnd(edge), 0);
            handAtEnd(block, edge, Shape.highEnd(edge), Shape.lowEnd(edge), 1);
            carryOver();
            joinNew(0, 0, 1, 0);
            gluings.load(rows, 0, staying + 2);
        }

        /** The end that is not in the new block stands where that has the corner that the old block is without. */
        private void handAtEnd(int block, int edge, int end, int otherEnd, int maker) {
            int low = Shape.lowEnd(Shape.across(edge));
            int high = Shape.highEnd(Shape.across(edge));
            hand(block, 0, otherEnd, maker, Shape.orderWith(end, low, high));
            hand(gluings.otherOf(block, low), gluings.orderOf(block, low), otherEnd, maker,
                    Shape.orderWith(end, otherEnd, high));
            hand(gluings.otherOf(block, high), gluings.orderOf(block, high), otherEnd, maker,
                    Shape.orderWith(end, low, otherEnd));
        }

        void splitBlock(int block) {
            begin();
            take(block);
            for (int k = 0; k < Shape.CORNERS; k++) {
                hand(block, 0, k, k, 0);
            }
            carryOver();
            for (int k = 0; k < Shape.CORNERS; k++) {
                for (int higher = k + 1; higher < Shape.CORNERS; higher++) {
                    joinNew(k, higher, higher, Shape.exchange(k, higher));
                }
            }
            gluings.load(rows, 0, staying + Shape.CORNERS);
        }

        boolean canDropCorner(Cells cells, int tip) {
            int block = cells.tips.lowest[tip] / Shape.CORNERS;
            int corner = cells.tips.lowest[tip] % Shape.CORNERS;
            boolean fits = cells.tips.many[tip] == 4;
            for (int k = 0; k < 3 && fits; k++) {
                int face = Shape.cornerOfFace(corner, k);
                fits = !gluings.isOpen(block, face) && gluings.otherOf(block, face) != block;
            }
            for (int k = 0; k < 3 && fits; k++) {
                int one = Shape.cornerOfFace(corner, k);
                int two = Shape.cornerOfFace(corner, k == 2 ? 0 : k + 1);
                fits = gluings.otherOf(block, one) != gluings.otherOf(block, two)
                        && areGluedAround(block, corner, one, two);
            }
            return fits;
        }

        /** Whether the blocks behind two faces at a corner are glued as if they came of one for four. */
        private boolean areGluedAround(int block, int corner, int one, int two) {
            int order = gluings.orderOf(block, one);
            int behind = gluings.otherOf(block, one);
            int face = Shape.at(order, two);
            if (gluings.isOpen(behind, face) || gluings.otherOf(behind, face) != gluings.otherOf(block, two)) {
                return false;
            }
            int back = Shape.chain(gluings.orderOf(behind, face), Shape.inverse(gluings.orderOf(block, two)));
            int round = Shape.chain(Shape.exchange(corner, one), Shape.chain(order, back));
            return Shape.chain(round, Shape.exchange(corner, two)) == Shape.exchange(one, two);
        }

        void dropCorner(int at) {
            int block = at / Shape.CORNERS;
            int corner = at % Shape.CORNERS;
            begin();
            take(block);
            hand(block, 0, corner, 0, 0);
            for (int k = 0; k < 3; k++) {
                int face = Shape.cornerOfFace(corner, k);
                int other = gluings.otherOf(block, face);
                take(other);
                hand(other, gluings.orderOf(block, face), corner, 0, Shape.exchange(corner, face));
            }
            carryOver();
            gluings.load(rows, 0, staying + 1);
        }

        private void begin() {
            for (int at = 0; at < Gluings.MOST_FACES; at++) {
                takers[at] = -1;
                rows[at] = -1;
            }
            for (int block = 0; block < Gluings.MOST; block++) {
                places[block] = 0;
            }
        }

        private void take(int block) {
            places[block] = -1;
        }

        /**
         * Hands a face of a block to a new one. The face, and which old corners stand at the new block's corners, are
         * told in names of the block that the move starts from; an order leads from there to the block.
         */
        private void hand(int block, int order, int face, int maker, int standing) {
            int at = block * Shape.CORNERS + Shape.at(order, face);
            takers[at] = maker;
            takenBy[at] = Shape.inverse(Shape.chain(standing, order));
        }

        private void carryOver() {
            staying = 0;
            for (int block = 0; block < gluings.count; block++) {
                if (places[block] >= 0) {
                    places[block] = staying;
                    staying++;
                }
            }
            for (int at = 0; at < gluings.count * Shape.CORNERS; at++) {
                if (gluings.rows[at] >= 0) {
                    carryFace(at / Shape.CORNERS, at % Shape.CORNERS);
                }
            }
        }

        private void carryFace(int block, int face) {
            int other = gluings.otherOf(block, face);
            int order = gluings.orderOf(block, face);
            int across = Shape.at(order, face);
            int from = newPlace(block, face);
            int to = newPlace(other, across);
            if (from < 0 || to < 0) {
                return;
            }
            int fromOrder = newOrder(block, face);
            int order2 = Shape.chain(Shape.inverse(fromOrder), Shape.chain(order, newOrder(other, across)));
            rows[from * Shape.CORNERS + Shape.at(fromOrder, face)] = to * Shape.ORDERS + order2;
        }

        private int newPlace(int block, int face) {
            int taker = takers[block * Shape.CORNERS + face];
            if (places[block] >= 0) {
                return places[block];
            }
            return taker < 0 ? -1 : staying + taker;
        }

        private int newOrder(int block, int face) {
            return places[block] >= 0 ? 0 : takenBy[block * Shape.CORNERS + face];
        }

        private void joinNew(int one, int face, int two, int order) {
            int across = Shape.at(order, face);
            rows[(staying + one) * Shape.CORNERS + face] = (staying + two) * Shape.ORDERS + order;
            rows[(staying + two) * Shape.CORNERS + across] = (staying + one) * Shape.ORDERS + Shape.inverse(order);
        }
    }

    /** Generators, relators, and what is left of them as generators may change places. */
    private static final class Group {
        private static final int MOST_WALK = 48;
        private final Gluings gluings;
        private final Cells cells;
        private final Joins tree = new Joins(Gluings.MOST);
        /** For each face the number that a relator has for going through it, 0 if none. */
        private final int[] passes = new int[Gluings.MOST_FACES];
        int loops;
        final int[] walk = new int[MOST_WALK];
        int walkLength;
        final Diagonal table = new Diagonal();
        private int seen = -1;

        Group(Gluings gluings, Cells cells) {
            this.gluings = gluings;
            this.cells = cells;
        }

        void renew() {
            if (seen == gluings.version) {
                return;
            }
            seen = gluings.version;
            cells.renew();
            numberPairs();
            table.begin(loops);
            for (int line = 0; line < cells.lines.classes; line++) {
                if (!cells.lineOpen[line]) {
                    goRound(line);
                    tellTable();
                }
            }
            table.makeDiagonal();
        }

        private void numberPairs() {
            loops = 0;
            tree.begin(gluings.count);
            for (int at = 0; at < gluings.count * Shape.CORNERS; at++) {
                if (gluings.isLowerSide(at / Shape.CORNERS, at % Shape.CORNERS)) {
                    numberPair(at / Shape.CORNERS, at % Shape.CORNERS);
                }
            }
        }

        private void numberPair(int block, int face) {
            int other = gluings.otherOf(block, face);
            int across = Shape.at(gluings.orderOf(block, face), face);
            int pass = 0;
            if (tree.areJoined(block, other)) {
                loops++;
                pass = loops;
            }
            tree.join(block, other);
            passes[block * Shape.CORNERS + face] = pass;
            passes[other * Shape.CORNERS + across] = -pass;
        }

        private void tellTable() {
            table.addRow();
            for (int at = 0; at < walkLength; at++) {
                int pass = walk[at];
                table.addInRow(Math.abs(pass) - 1, pass < 0 ? -1 : 1);
            }
        }

        /** Around an inner edge its edges of blocks are a ring, so one is back after as many as there are. */
        void goRound(int line) {
            int at = cells.lines.lowest[line];
            int block = at / Shape.EDGES;
            int out = Shape.lowEnd(Shape.across(at % Shape.EDGES));
            int in = Shape.highEnd(Shape.across(at % Shape.EDGES));
            walkLength = 0;
            for (int step = 0; step < cells.lines.many[line] && !gluings.isOpen(block, out); step++) {
                int pass = passes[block * Shape.CORNERS + out];
                if (pass != 0 && walkLength < MOST_WALK) {
                    walk[walkLength] = pass;
                    walkLength++;
                }
                int order = gluings.orderOf(block, out);
                block = gluings.otherOf(block, out);
                int entered = Shape.at(order, out);
                out = Shape.at(order, in);
                in = entered;
            }
        }
    }

    /** A table of numbers that is made one of a diagonal, each number of it dividing the next one. */
    private static final class Diagonal {
        private static final int MOST_ROWS = 48;
        private static final int MOST_COLUMNS = 16;
        private static final int MOST_ROUNDS = 100000;
        private final long[] cells = new long[MOST_ROWS * MOST_COLUMNS];
        private int rows;
        private int columns;
        int rank;

        void begin(int width) {
            rows = 0;
            columns = width;
            rank = 0;
        }

        void addRow() {
            for (int column = 0; column < columns; column++) {
                cells[rows * MOST_COLUMNS + column] = 0;
            }
            rows++;
        }

        void addInRow(int column, int value) {
            cells[(rows - 1) * MOST_COLUMNS + column] += value;
        }

        void makeDiagonal() {
            int most = Math.min(rows, columns);
            for (int at = 0; at < most && settle(at); at++) {
                rank++;
            }
        }

        long inDiagonal(int at) {
            return Math.abs(cells[at * MOST_COLUMNS + at]);
        }

        int countAboveOne() {
            int count = 0;
            for (int at = 0; at < rank; at++) {
                count += inDiagonal(at) > 1 ? 1 : 0;
            }
            return count;
        }

        /** Each round but the last leaves a smaller number than it found, so few are needed. */
        private boolean settle(int at) {
            boolean settled = false;
            for (int round = 0; round < MOST_ROUNDS && !settled; round++) {
                int least = leastFrom(at);
                if (least < 0) {
                    return false;
                }
                swapRows(at, least / MOST_COLUMNS);
                swapColumns(at, least % MOST_COLUMNS);
                boolean clean = reduceRows(at);
                clean = reduceColumns(at) && clean;
                settled = clean && dividesRest(at);
            }
            return settled;
        }

        private int leastFrom(int at) {
            int found = -1;
            long least = 0;
            for (int row = at; row < rows; row++) {
                for (int column = at; column < columns; column++) {
                    long size = Math.abs(cells[row * MOST_COLUMNS + column]);
                    if (size != 0 && (found < 0 || size < least)) {
                        found = row * MOST_COLUMNS + column;
                        least = size;
                    }
                }
            }
            return found;
        }

        private void swapRows(int one, int two) {
            for (int column = 0; column < columns; column++) {
                long value = cells[one * MOST_COLUMNS + column];
                cells[one * MOST_COLUMNS + column] = cells[two * MOST_COLUMNS + column];
                cells[two * MOST_COLUMNS + column] = value;
            }
        }

        private void swapColumns(int one, int two) {
            for (int row = 0; row < rows; row++) {
                long value = cells[row * MOST_COLUMNS + one];
                cells[row * MOST_COLUMNS + one] = cells[row * MOST_COLUMNS + two];
                cells[row * MOST_COLUMNS + two] = value;
            }
        }

        private boolean reduceRows(int at) {
            long pivot = cells[at * MOST_COLUMNS + at];
            boolean clean = true;
            for (int row = at + 1; row < rows && pivot != 0; row++) {
                long times = cells[row * MOST_COLUMNS + at] / pivot;
                for (int column = at; column < columns; column++) {
                    cells[row * MOST_COLUMNS + column] -= times * cells[at * MOST_COLUMNS + column];
                }
                clean = clean && cells[row * MOST_COLUMNS + at] == 0;
            }
            return clean;
        }

        private boolean reduceColumns(int at) {
            long pivot = cells[at * MOST_COLUMNS + at];
            boolean clean = true;
            for (int column = at + 1; column < columns && pivot != 0; column++) {
                long times = cells[at * MOST_COLUMNS + column] / pivot;
                for (int row = at; row < rows; row++) {
                    cells[row * MOST_COLUMNS + column] -= times * cells[row * MOST_COLUMNS + at];
                }
                clean = clean && cells[at * MOST_COLUMNS + column] == 0;
            }
            return clean;
        }

        /** A row with a number that the pivot does not divide is added to its row, so that the next round meets it. */
        private boolean dividesRest(int at) {
            long pivot = cells[at * MOST_COLUMNS + at];
            for (int row = at + 1; row < rows; row++) {
                for (int column = at + 1; column < columns; column++) {
                    if (pivot != 0 && cells[row * MOST_COLUMNS + column] % pivot != 0) {
                        addToRow(at, row);
                        return false;
                    }
                }
            }
            return true;
        }

        private void addToRow(int at, int row) {
            for (int column = at; column < columns; column++) {
                cells[at * MOST_COLUMNS + column] += cells[row * MOST_COLUMNS + column];
            }
        }
    }

    /** Ways of flat angles. */
    private static final class Angles {
        private static final int PAIRS = 3;
        private static final int MOST_STEPS = 1000000;
        private final Gluings gluings;
        private final Cells cells;
        /** The blocks that have an inner edge; any other one may have each pair. */
        private final int[] held = new int[Gluings.MOST];
        private int holding;
        private final int[] choices = new int[Gluings.MOST];
        private final int[] halfTurns = new int[Gluings.MOST * Shape.EDGES];
        private final int[] lastBlocks = new int[Gluings.MOST * Shape.EDGES];
        private int ways;
        private int seen = -1;

        Angles(Gluings gluings, Cells cells) {
            this.gluings = gluings;
            this.cells = cells;
        }

        int waysOfAll() {
            if (seen != gluings.version) {
                seen = gluings.version;
                cells.renew();
                begin();
                ways = waysOfHeld();
                for (int block = holding; block < gluings.count; block++) {
                    ways *= PAIRS;
                }
            }
            return ways;
        }

        private void begin() {
            holding = 0;
            for (int block = 0; block < gluings.count; block++) {
                boolean hasInner = false;
                for (int edge = 0; edge < Shape.EDGES; edge++) {
                    int line = cells.lines.classOf[block * Shape.EDGES + edge];
                    halfTurns[line] = 0;
                    lastBlocks[line] = block;
                    hasInner = hasInner || !cells.lineOpen[line];
                }
                if (hasInner) {
                    held[holding] = block;
                    holding++;
                }
            }
        }

        private int waysOfHeld() {
            int found = holding == 0 ? 1 : 0;
            int depth = holding == 0 ? -1 : 0;
            choices[0] = -1;
            for (int step = 0; step < MOST_STEPS && depth >= 0; step++) {
                int block = held[depth];
                if (choices[depth] >= 0) {
                    turn(block, choices[depth], -1);
                }
                choices[depth]++;
                if (choices[depth] >= PAIRS) {
                    depth--;
                    continue;
                }
                turn(block, choices[depth], 1);
                if (mayStand(block)) {
                    if (depth == holding - 1) {
                        found++;
                    } else {
                        depth++;
                        choices[depth] = -1;
                    }
                }
            }
            return found;
        }

        private void turn(int block, int pair, int more) {
            halfTurns[cells.lines.classOf[block * Shape.EDGES + pair]] += more;
            halfTurns[cells.lines.classOf[block * Shape.EDGES + Shape.across(pair)]] += more;
        }

        private boolean mayStand(int block) {
            boolean may = true;
            for (int edge = 0; edge < Shape.EDGES && may; edge++) {
                int line = cells.lines.classOf[block * Shape.EDGES + edge];
                if (!cells.lineOpen[line]) {
                    may = halfTurns[line] == 2 || halfTurns[line] < 2 && lastBlocks[line] != block;
                }
            }
            return may;
        }
    }

    /** Pieces of surfaces, and the thin ways to have them. */
    private static final class Pieces {
        static final int KINDS = 7;
        static final int MOST = 99;
        static final int MOST_BLOCKS_OF_THIN = 3;
        private static final int THIN_OF_BLOCK = 64;
        private static final int THIN_BEHIND_FACE = 8;
        private static final int MOST_STEPS = 1000000;
        private final Gluings gluings;
        private final Cells cells;
        private final int[] counts = new int[Gluings.MOST * KINDS];
        /** The blocks of a part, each but the first glued by the face that is told here to one before it. */
        private final int[] line = new int[MOST_BLOCKS_OF_THIN];
        private final int[] backFaces = new int[MOST_BLOCKS_OF_THIN];
        private final int[] placeInLine = new int[MOST_BLOCKS_OF_THIN];
        private int inLine;
        private final int[] tries = new int[MOST_BLOCKS_OF_THIN];
        /** Thin pieces of a block: a bit for each kind of triangles, then 0, or 1 to 3 for its quad. */
        private final int[] choices = new int[MOST_BLOCKS_OF_THIN];
        private int thinWays;
        private int thinSeen = -1;

        Pieces(Gluings gluings, Cells cells) {
            this.gluings = gluings;
            this.cells = cells;
        }

        void takeAll() {
            for (int at = 0; at < counts.length; at++) {
                counts[at] = 0;
            }
        }

        int exchange(int block, int kind, int many) {
            int before = counts[block * KINDS + kind];
            counts[block * KINDS + kind] = many;
            return before;
        }

        boolean hasRoomAt(int tip) {
            boolean room = true;
            for (int at = 0; at < gluings.count * Shape.CORNERS; at++) {
                if (cells.tips.classOf[at] == tip) {
                    room = room && counts[at / Shape.CORNERS * KINDS + at % Shape.CORNERS] < MOST;
                }
            }
            return room;
        }

        void addAround(int tip) {
            for (int at = 0; at < gluings.count * Shape.CORNERS; at++) {
                if (cells.tips.classOf[at] == tip) {
                    counts[at / Shape.CORNERS * KINDS + at % Shape.CORNERS]++;
                }
            }
        }

        boolean doMatch() {
            boolean match = true;
            for (int at = 0; at < gluings.count * Shape.CORNERS && match; at++) {
                int block = at / Shape.CORNERS;
                int face = at % Shape.CORNERS;
                match = !gluings.isLowerSide(block, face) || doFacesMatch(block, face);
            }
            return match;
        }

        private boolean doFacesMatch(int block, int face) {
            int other = gluings.otherOf(block, face);
            int order = gluings.orderOf(block, face);
            boolean match = true;
            for (int k = 0; k < 3 && match; k++) {
                int corner = Shape.cornerOfFace(face, k);
                match = arcs(block, face, corner) == arcs(other, Shape.at(order, face), Shape.at(order, corner));
            }
            return match;
        }

        private int arcs(int block, int face, int corner) {
            int quad = Shape.CORNERS + Shape.pairOf(Shape.edgeWith(corner, face));
            return counts[block * KINDS + corner] + counts[block * KINDS + quad];
        }

        boolean areSingle() {
            boolean single = true;
            for (int block = 0; block < gluings.count; block++) {
                int kinds = 0;
                for (int kind = Shape.CORNERS; kind < KINDS; kind++) {
                    kinds += counts[block * KINDS + kind] > 0 ? 1 : 0;
                }
                single = single && kinds <= 1;
            }
            return single;
        }

        int numberOfSurface() {
            cells.renew();
            int number = 0;
            for (int edge = 0; edge < cells.lines.classes; edge++) {
                int at = cells.lines.lowest[edge];
                number += cuts(at / Shape.EDGES, at % Shape.EDGES);
            }
            for (int at = 0; at < gluings.count * Shape.CORNERS; at++) {
                number -= arcsToCount(at / Shape.CORNERS, at % Shape.CORNERS);
            }
            for (int at = 0; at < gluings.count * KINDS; at++) {
                number += counts[at];
            }
            return number;
        }

        private int cuts(int block, int edge) {
            int sum = counts[block * KINDS + Shape.lowEnd(edge)] + counts[block * KINDS + Shape.highEnd(edge)];
            for (int pair = 0; pair < 3; pair++) {
                if (pair != Shape.pairOf(edge)) {
                    sum += counts[block * KINDS + Shape.CORNERS + pair];
                }
            }
            return sum;
        }

        private int arcsToCount(int block, int face) {
            if (!gluings.isOpen(block, face) && !gluings.isLowerSide(block, face)) {
                return 0;
            }
            int sum = 0;
            for (int k = 0; k < 3; k++) {
                sum += arcs(block, face, Shape.cornerOfFace(face, k));
            }
            return sum;
        }

        int thinOfAll() {
            if (thinSeen != gluings.version) {
                thinSeen = gluings.version;
                cells.renew();
                thinWays = 1;
                for (int whole = 0; whole < cells.wholes.classes; whole++) {
                    lineUp(whole);
                    thinWays *= thinOfLine();
                }
            }
            return thinWays;
        }

        private void lineUp(int whole) {
            for (int block = 0; block < gluings.count; block++) {
                placeInLine[block] = -1;
            }
            inLine = 0;
            queue(cells.wholes.lowest[whole], 0);
            for (int place = 0; place < MOST_BLOCKS_OF_THIN && place < inLine; place++) {
                int block = line[place];
                for (int face = 0; face < Shape.CORNERS; face++) {
                    if (!gluings.isOpen(block, face)) {
                        queue(gluings.otherOf(block, face), Shape.at(gluings.orderOf(block, face), face));
                    }
                }
            }
        }

        private void queue(int block, int backFace) {
            if (placeInLine[block] < 0) {
                placeInLine[block] = inLine;
                line[inLine] = block;
                backFaces[inLine] = backFace;
                inLine++;
            }
        }

        private int thinOfLine() {
            int found = 0;
            int place = 0;
            tries[0] = -1;
            for (int step = 0; step < MOST_STEPS && place >= 0; step++) {
                tries[place]++;
                if (tries[place] >= (place == 0 ? THIN_OF_BLOCK : THIN_BEHIND_FACE)) {
                    place--;
                } else if (choose(place) && doesFit(place)) {
                    if (place == inLine - 1) {
                        found++;
                    } else {
                        place++;
                        tries[place] = -1;
                    }
                }
            }
            return found;
        }

        /** Behind a face that has its arcs, only a block's quad and the triangle across from the face are free. */
        private boolean choose(int place) {
            int turn = tries[place];
            if (place == 0) {
                choices[0] = turn;
                return true;
            }
            int face = backFaces[place];
            int arcs = arcsBehind(line[place], face);
            int quad = turn >> 1;
            int triangles = (turn & 1) << face;
            for (int k = 0; k < 3; k++) {
                int corner = Shape.cornerOfFace(face, k);
                int left = (arcs >> 2 * corner & 3) - (corner == (face ^ quad) ? 1 : 0);
                if (left < 0 || left > 1) {
                    return false;
                }
                triangles |= left << corner;
            }
            choices[place] = triangles | quad << 4;
            return true;
        }

        private boolean doesFit(int place) {
            int block = line[place];
            boolean fits = true;
            for (int face = 0; face < Shape.CORNERS && fits; face++) {
                if (!gluings.isOpen(block, face)) {
                    int otherPlace = placeInLine[gluings.otherOf(block, face)];
                    boolean later = otherPlace < 0 || otherPlace > place;
                    fits = later || arcsBehind(block, face) == thinArcs(choices[place], face);
                }
            }
            return fits;
        }

        /** The arcs on the face to which a face is glued, told by the corners of the latter. */
        private int arcsBehind(int block, int face) {
            int order = gluings.orderOf(block, face);
            int arcs = thinArcs(choices[placeInLine[gluings.otherOf(block, face)]], Shape.at(order, face));
            int told = 0;
            for (int k = 0; k < Shape.CORNERS; k++) {
                told |= (arcs >> 2 * Shape.at(order, k) & 3) << 2 * k;
            }
            return told;
        }

        /** Two bits for each corner; the quad of a number leaves two corners together that differ by its bits. */
        private static int thinArcs(int choice, int face) {
            int quad = choice >> 4;
            int arcs = quad == 0 ? 0 : 1 << 2 * (face ^ quad);
            for (int k = 0; k < 3; k++) {
                int corner = Shape.cornerOfFace(face, k);
                arcs += (choice >> corner & 1) << 2 * corner;
            }
            return arcs;
        }
    }
}

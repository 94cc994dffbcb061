import java.math.BigInteger;
import java.util.ArrayDeque;
import java.util.ArrayList;
import java.util.Arrays;
import java.util.Collections;
import java.util.HashSet;
import java.util.List;
import java.util.NoSuchElementException;
import java.util.Set;
import java.util.TreeSet;

/**
 * The document read a second time, with other means than the class: sets that are flooded, corners told by symbols,
 * all ways tried. It is slow and plain; OracleTest compares the class with it.
 */
final class Oracle {
    static final int[][] ORDERS = orders();
    static final int[][] ENDS = {{0, 1}, {0, 2}, {0, 3}, {1, 2}, {1, 3}, {2, 3}};

    /** A block: for each face the block behind it (as an object) and where each corner goes; null if open. */
    static final class Tet {
        final Tet[] behind = new Tet[4];
        final int[][] goes = new int[4][];
    }

    private List<Tet> tets = new ArrayList<>();
    private final ArrayDeque<List<Tet>> history = new ArrayDeque<>();
    private final List<List<Integer>> kept = new ArrayList<>(Arrays.asList(null, null, null));
    private int[][] pieces = new int[8][7];

    private static int[][] orders() {
        TreeSet<String> all = new TreeSet<>();
        for (int n = 0; n <= 3333; n++) {
            String s = String.format("%04d", n);
            if (s.contains("0") && s.contains("1") && s.contains("2") && s.contains("3")) {
                all.add(s);
            }
        }
        int[][] rows = new int[24][4];
        int at = 0;
        for (String s : all) {
            for (int k = 0; k < 4; k++) {
                rows[at][k] = s.charAt(k) - '0';
            }
            at++;
        }
        return rows;
    }

    static int orderNumber(int[] order) {
        for (int k = 0; k < 24; k++) {
            if (Arrays.equals(ORDERS[k], order)) {
                return k;
            }
        }
        throw new Error("no order");
    }

    private static boolean isOdd(int[] order) {
        int worse = 0;
        for (int i = 0; i < 4; i++) {
            for (int j = i + 1; j < 4; j++) {
                worse += order[i] > order[j] ? 1 : 0;
            }
        }
        return worse % 2 == 1;
    }

    private static int[] back(int[] order) {
        int[] row = new int[4];
        for (int k = 0; k < 4; k++) {
            row[order[k]] = k;
        }
        return row;
    }

    private static List<Tet> copy(List<Tet> from) {
        List<Tet> to = new ArrayList<>();
        for (int k = 0; k < from.size(); k++) {
            to.add(new Tet());
        }
        for (int k = 0; k < from.size(); k++) {
            for (int f = 0; f < 4; f++) {
                if (from.get(k).behind[f] != null) {
                    to.get(k).behind[f] = to.get(from.indexOf(from.get(k).behind[f]));
                    to.get(k).goes[f] = from.get(k).goes[f].clone();
                }
            }
        }
        return to;
    }

    private void remember() {
        history.addLast(copy(tets));
        if (history.size() > 8) {
            history.removeFirst();
        }
    }

    private void noPieces() {
        pieces = new int[8][7];
    }

    private void block(int b) {
        if (b < 0 || b >= tets.size()) {
            throw new IndexOutOfBoundsException();
        }
    }

    private static void range(int value, int low, int high) {
        if (value < low || value > high) {
            throw new IllegalArgumentException();
        }
    }

    int addBlock() {
        if (tets.size() == 8) {
            throw new IllegalStateException();
        }
        remember();
        noPieces();
        tets.add(new Tet());
        return tets.size() - 1;
    }

    int clear() {
        int before = tets.size();
        tets = new ArrayList<>();
        history.clear();
        noPieces();
        return before;
    }

    private static void stick(Tet a, int face, Tet b, int[] order) {
        a.behind[face] = b;
        a.goes[face] = order.clone();
        b.behind[order[face]] = a;
        b.goes[order[face]] = back(order);
    }

    int glue(int b, int face, int other, int order) {
        block(b);
        block(other);
        range(face, 0, 3);
        range(order, 0, 23);
        int to = ORDERS[order][face];
        if (tets.get(b).behind[face] != null || tets.get(other).behind[to] != null || b == other && face == to) {
            throw new UnsupportedOperationException();
        }
        remember();
        stick(tets.get(b), face, tets.get(other), ORDERS[order]);
        return to;
    }

    private void gluedFace(int b, int face) {
        block(b);
        range(face, 0, 3);
        if (tets.get(b).behind[face] == null) {
            throw new NoSuchElementException();
        }
    }

    int unglue(int b, int face) {
        gluedFace(b, face);
        remember();
        Tet one = tets.get(b);
        Tet two = one.behind[face];
        int to = one.goes[face][face];
        one.behind[face] = null;
        two.behind[to] = null;
        return tets.indexOf(two);
    }

    int gluedTo(int b, int face) {
        gluedFace(b, face);
        return tets.indexOf(tets.get(b).behind[face]);
    }

    int gluedBy(int b, int face) {
        gluedFace(b, face);
        return orderNumber(tets.get(b).goes[face]);
    }

    int undo() {
        if (history.isEmpty()) {
            throw new NoSuchElementException();
        }
        tets = history.removeLast();
        noPieces();
        return tets.size();
    }

    /** All that hangs together with a thing, a thing being a row of numbers. */
    private interface Next {
        List<List<Integer>> of(List<Integer> thing);
    }

    private static Set<List<Integer>> flood(List<Integer> start, Next next) {
        Set<List<Integer>> all = new HashSet<>();
        ArrayDeque<List<Integer>> todo = new ArrayDeque<>();
        all.add(start);
        todo.add(start);
        while (!todo.isEmpty()) {
            for (List<Integer> n : next.of(todo.remove())) {
                if (all.add(n)) {
                    todo.add(n);
                }
            }
        }
        return all;
    }

    private List<Set<List<Integer>>> classes(List<List<Integer>> things, Next next) {
        List<Set<List<Integer>>> found = new ArrayList<>();
        Set<List<Integer>> done = new HashSet<>();
        for (List<Integer> thing : things) {
            if (!done.contains(thing)) {
                Set<List<Integer>> c = flood(thing, next);
                done.addAll(c);
                found.add(c);
            }
        }
        return found;
    }

    /** Where a row (block, corner, corner, ..) comes by the gluings of faces that have all these corners. */
    private List<List<Integer>> across(List<Integer> thing) {
        List<List<Integer>> all = new ArrayList<>();
        Tet t = tets.get(thing.get(0));
        for (int f = 0; f < 4; f++) {
            if (t.behind[f] != null && !thing.subList(1, thing.size()).contains(f)) {
                List<Integer> to = new ArrayList<>();
                to.add(tets.indexOf(t.behind[f]));
                for (int k = 1; k < thing.size(); k++) {
                    to.add(t.goes[f][thing.get(k)]);
                }
                all.add(to);
            }
        }
        return all;
    }

    private static List<Integer> sortedEdge(List<Integer> e) {
        return List.of(e.get(0), Math.min(e.get(1), e.get(2)), Math.max(e.get(1), e.get(2)));
    }

    private List<Set<List<Integer>>> edgeClasses() {
        List<List<Integer>> things = new ArrayList<>();
        for (int b = 0; b < tets.size(); b++) {
            for (int[] e : ENDS) {
                things.add(List.of(b, e[0], e[1]));
            }
        }
        return classes(things, thing -> {
            List<List<Integer>> to = new ArrayList<>();
            for (List<Integer> n : across(thing)) {
                to.add(sortedEdge(n));
            }
            return to;
        });
    }

    private List<Set<List<Integer>>> cornerClasses() {
        List<List<Integer>> things = new ArrayList<>();
        for (int b = 0; b < tets.size(); b++) {
            for (int c = 0; c < 4; c++) {
                things.add(List.of(b, c));
            }
        }
        return classes(things, this::across);
    }

    int parts() {
        List<List<Integer>> things = new ArrayList<>();
        for (int b = 0; b < tets.size(); b++) {
            things.add(List.of(b));
        }
        return classes(things, this::across).size();
    }

    /** All ways to sign the blocks are tried. */
    boolean isAlikeTurned() {
        for (int signs = 0; signs < 1 << tets.size(); signs++) {
            boolean good = true;
            for (int b = 0; b < tets.size(); b++) {
                for (int f = 0; f < 4; f++) {
                    Tet o = tets.get(b).behind[f];
                    if (o != null) {
                        boolean like = (signs >> b & 1) == (signs >> tets.indexOf(o) & 1);
                        good &= like == isOdd(tets.get(b).goes[f]);
                    }
                }
            }
            if (good) {
                return true;
            }
        }
        return false;
    }

    char kind() {
        if (tets.isEmpty()) {
            return '-';
        }
        Set<Character> links = new HashSet<>();
        for (int c = 0; c < corners(); c++) {
            links.add(link(c));
        }
        for (int e = 0; e < edges(); e++) {
            if (isReversed(e)) {
                return '-';
            }
        }
        if (links.contains('o')) {
            return '-';
        }
        if (links.contains('t') || links.contains('k')) {
            return 'i';
        }
        return links.contains('d') ? 'b' : 'c';
    }

    int number() {
        int glued = 4 * tets.size() - openFaces();
        return corners() - edges() + openFaces() + glued / 2 - tets.size();
    }

    int openFaces() {
        int n = 0;
        for (Tet t : tets) {
            for (Tet o : t.behind) {
                n += o == null ? 1 : 0;
            }
        }
        return n;
    }

    int edges() {
        return edgeClasses().size();
    }

    int edgeOf(int b, int e) {
        block(b);
        range(e, 0, 5);
        List<Set<List<Integer>>> all = edgeClasses();
        for (int k = 0; k < all.size(); k++) {
            if (all.get(k).contains(List.of(b, ENDS[e][0], ENDS[e][1]))) {
                return k;
            }
        }
        throw new Error();
    }

    private Set<List<Integer>> edge(int e) {
        List<Set<List<Integer>>> all = edgeClasses();
        if (e < 0 || e >= all.size()) {
            throw new IndexOutOfBoundsException();
        }
        return all.get(e);
    }

    private List<Integer> lowest(Set<List<Integer>> c) {
        List<List<Integer>> all = new ArrayList<>(c);
        all.sort((x, y) -> {
            for (int k = 0; k < x.size(); k++) {
                if (!x.get(k).equals(y.get(k))) {
                    return x.get(k) - y.get(k);
                }
            }
            return 0;
        });
        return all.get(0);
    }

    int edgeDegree(int e) {
        return edge(e).size();
    }

    boolean isReversed(int e) {
        List<Integer> first = lowest(edge(e));
        return flood(first, this::across).contains(List.of(first.get(0), first.get(2), first.get(1)));
    }

    boolean isInner(int e) {
        for (List<Integer> one : edge(e)) {
            for (int f = 0; f < 4; f++) {
                if (f != one.get(1) && f != one.get(2) && tets.get(one.get(0)).behind[f] == null) {
                    return false;
                }
            }
        }
        return true;
    }

    int corners() {
        return cornerClasses().size();
    }

    int cornerOf(int b, int c) {
        block(b);
        range(c, 0, 3);
        List<Set<List<Integer>>> all = cornerClasses();
        for (int k = 0; k < all.size(); k++) {
            if (all.get(k).contains(List.of(b, c))) {
                return k;
            }
        }
        throw new Error();
    }

    private Set<List<Integer>> corner(int c) {
        List<Set<List<Integer>>> all = cornerClasses();
        if (c < 0 || c >= all.size()) {
            throw new IndexOutOfBoundsException();
        }
        return all.get(c);
    }

    int cornerDegree(int c) {
        return corner(c).size();
    }

    /** Points less sides and triangles: classes of (block, corner, far corner), then sides told by their faces. */
    int linkNumber(int c) {
        Set<List<Integer>> tips = corner(c);
        List<List<Integer>> ends = new ArrayList<>();
        Set<Set<List<Integer>>> sides = new HashSet<>();
        for (List<Integer> tip : tips) {
            Tet t = tets.get(tip.get(0));
            for (int k = 0; k < 4; k++) {
                if (k != tip.get(1)) {
                    ends.add(List.of(tip.get(0), tip.get(1), k));
                    Set<List<Integer>> side = new HashSet<>();
                    side.add(List.of(tip.get(0), tip.get(1), k));
                    if (t.behind[k] != null) {
                        side.add(List.of(tets.indexOf(t.behind[k]), t.goes[k][tip.get(1)], t.goes[k][k]));
                    }
                    sides.add(side);
                }
            }
        }
        return classes(ends, this::across).size() - sides.size() + tips.size();
    }

    char link(int c) {
        Set<List<Integer>> tips = corner(c);
        int n = linkNumber(c);
        for (List<Integer> tip : tips) {
            for (int k = 0; k < 4; k++) {
                if (k != tip.get(1) && tets.get(tip.get(0)).behind[k] == null) {
                    return n == 1 ? 'd' : 'o';
                }
            }
        }
        if (n == 0) {
            return canTurn(tips) ? 't' : 'k';
        }
        return n == 2 ? 's' : 'o';
    }

    /**
     * A turned triangle is a row of its three points; two that are joined at a side go alike if that side is gone
     * through in opposite ways.
     */
    private boolean canTurn(Set<List<Integer>> tips) {
        List<Integer> tip = lowest(tips);
        List<Integer> start = new ArrayList<>(tip);
        for (int k = 0; k < 4; k++) {
            if (k != tip.get(1)) {
                start.add(k);
            }
        }
        Set<List<Integer>> reached = flood(start, row -> {
            List<List<Integer>> to = new ArrayList<>();
            Tet t = tets.get(row.get(0));
            for (int k = 2; k < 5; k++) {
                int f = row.get(k);
                if (t.behind[f] != null) {
                    int x = row.get(2 + (k - 2 + 1) % 3);
                    int y = row.get(2 + (k - 2 + 2) % 3);
                    int[] g = t.goes[f];
                    // this one goes x to y, so that one goes y to x, then to its own third point
                    List<Integer> turned = new ArrayList<>(List.of(g[y], g[x], g[f]));
                    while (turned.get(0) != Collections.min(turned).intValue()) {
                        Collections.rotate(turned, 1);
                    }
                    turned.add(0, g[row.get(1)]);
                    turned.add(0, tets.indexOf(t.behind[f]));
                    to.add(turned);
                }
            }
            return to;
        });
        return reached.size() == tips.size();
    }

    private List<Integer> code() {
        if (parts() != 1) {
            throw new UnsupportedOperationException();
        }
        List<Integer> best = null;
        for (Tet first : tets) {
            for (int[] order : ORDERS) {
                List<Integer> row = codeFrom(first, order);
                if (best == null || compare(row, best) < 0) {
                    best = row;
                }
            }
        }
        return best;
    }

    private static int compare(List<Integer> a, List<Integer> b) {
        for (int k = 0; k < a.size() && k < b.size(); k++) {
            if (!a.get(k).equals(b.get(k))) {
                return a.get(k) - b.get(k);
            }
        }
        return a.size() - b.size();
    }

    private List<Integer> codeFrom(Tet first, int[] order) {
        List<Tet> numbered = new ArrayList<>();
        List<int[]> nameOfCorner = new ArrayList<>();
        numbered.add(first);
        nameOfCorner.add(back(order));
        List<Integer> row = new ArrayList<>();
        for (int n = 0; n < numbered.size(); n++) {
            Tet t = numbered.get(n);
            int[] names = nameOfCorner.get(n);
            for (int name = 0; name < 4; name++) {
                int face = back(names)[name];
                Tet o = t.behind[face];
                if (o == null) {
                    row.add(0);
                } else if (!numbered.contains(o)) {
                    row.add(1);
                    int[] given = new int[4];
                    for (int k = 0; k < 4; k++) {
                        given[t.goes[face][k]] = names[k];
                    }
                    numbered.add(o);
                    nameOfCorner.add(given);
                } else {
                    int[] byNames = new int[4];
                    int[] theirs = nameOfCorner.get(numbered.indexOf(o));
                    for (int k = 0; k < 4; k++) {
                        byNames[names[k]] = theirs[t.goes[face][k]];
                    }
                    row.add(2);
                    row.add(numbered.indexOf(o));
                    row.add(orderNumber(byNames));
                }
            }
        }
        return row;
    }

    int codeLength() {
        return code().size();
    }

    int codeAt(int index) {
        List<Integer> code = code();
        if (index < 0 || index >= code.size()) {
            throw new NoSuchElementException();
        }
        return code.get(index);
    }

    int keepCode(int slot) {
        range(slot, 0, 2);
        kept.set(slot, code());
        return kept.get(slot).size();
    }

    boolean isKept(int slot) {
        range(slot, 0, 2);
        List<Integer> code = code();
        if (kept.get(slot) == null) {
            throw new NoSuchElementException();
        }
        return kept.get(slot).equals(code);
    }

    /**
     * Replaces blocks by others, the corners of all being told by symbols. New faces with the same three symbols are
     * glued to each other; any other new face takes the place of the old face with these symbols.
     */
    private void replace(List<Tet> gone, List<char[]> goneNames, List<char[]> comeNames) {
        remember();
        noPieces();
        List<Tet> come = new ArrayList<>();
        for (int k = 0; k < comeNames.size(); k++) {
            come.add(new Tet());
        }
        List<Object[]> outer = new ArrayList<>();
        for (int i = 0; i < come.size(); i++) {
            for (int f = 0; f < 4; f++) {
                boolean inside = false;
                for (int j = 0; j < come.size(); j++) {
                    for (int g = 0; g < 4; g++) {
                        if (i != j && sameFace(comeNames.get(i), f, comeNames.get(j), g)) {
                            inside = true;
                            stick(come.get(i), f, come.get(j), match(comeNames.get(i), f, comeNames.get(j), g));
                        }
                    }
                }
                if (!inside) {
                    int found = 0;
                    for (int j = 0; j < gone.size(); j++) {
                        for (int g = 0; g < 4; g++) {
                            if (sameFace(comeNames.get(i), f, goneNames.get(j), g)) {
                                outer.add(new Object[] {gone.get(j), g, come.get(i), f,
                                    match(goneNames.get(j), g, comeNames.get(i), f)});
                                found++;
                            }
                        }
                    }
                    if (found != 1) {
                        throw new Error("an outer face is in " + found + " old blocks");
                    }
                }
            }
        }
        for (Object[] o : outer) {
            hangOn(o, outer);
        }
        tets.removeAll(gone);
        tets.addAll(come);
    }

    private void hangOn(Object[] o, List<Object[]> outer) {
        Tet old = (Tet) o[0];
        int oldFace = (Integer) o[1];
        Tet fresh = (Tet) o[2];
        int freshFace = (Integer) o[3];
        int[] map = (int[]) o[4];
        Tet far = old.behind[oldFace];
        if (far == null) {
            return;
        }
        int[] goes = old.goes[oldFace];
        int farFace = goes[oldFace];
        int[] farMap = {0, 1, 2, 3};
        Tet farFresh = far;
        for (Object[] p : outer) {
            if (p[0] == far && (Integer) p[1] == farFace) {
                farFresh = (Tet) p[2];
                farMap = (int[]) p[4];
            }
        }
        int[] order = new int[4];
        for (int k = 0; k < 4; k++) {
            order[map[k]] = farMap[goes[k]];
        }
        fresh.behind[freshFace] = farFresh;
        fresh.goes[freshFace] = order;
        if (farFresh == far) {
            far.behind[farFace] = fresh;
            far.goes[farFace] = back(order);
        }
    }

    private static Set<Character> faceNames(char[] names, int face) {
        Set<Character> set = new HashSet<>();
        for (int k = 0; k < 4; k++) {
            if (k != face) {
                set.add(names[k]);
            }
        }
        return set;
    }

    private static boolean sameFace(char[] a, int f, char[] b, int g) {
        return faceNames(a, f).equals(faceNames(b, g));
    }

    private static int[] match(char[] a, int f, char[] b, int g) {
        int[] to = new int[4];
        for (int k = 0; k < 4; k++) {
            for (int n = 0; n < 4; n++) {
                if (k != f && n != g && a[k] == b[n]) {
                    to[k] = n;
                }
            }
        }
        to[f] = g;
        return to;
    }

    int twoForThree(int b, int face) {
        block(b);
        range(face, 0, 3);
        Tet one = tets.get(b);
        Tet two = one.behind[face];
        if (two == null || two == one || tets.size() >= 8) {
            throw new UnsupportedOperationException();
        }
        char[] symbols = "xyz".toCharArray();
        char[] names = new char[4];
        char[] theirs = new char[4];
        int at = 0;
        for (int k = 0; k < 4; k++) {
            names[k] = k == face ? 'A' : symbols[at++];
            theirs[one.goes[face][k]] = k == face ? 'Z' : names[k];
        }
        replace(List.of(one, two), List.of(names, theirs),
                List.of("AZyz".toCharArray(), "AZxz".toCharArray(), "AZxy".toCharArray()));
        return tets.size();
    }

    int threeForTwo(int e) {
        Set<List<Integer>> all = edge(e);
        Set<Integer> blocks = new TreeSet<>();
        for (List<Integer> one : all) {
            blocks.add(one.get(0));
        }
        if (!isInner(e) || all.size() != 3 || blocks.size() != 3 || isReversed(e)) {
            throw new UnsupportedOperationException();
        }
        List<Integer> first = lowest(all);
        Set<List<Integer>> directed = flood(first, this::across);
        List<Tet> gone = new ArrayList<>();
        List<char[]> names = new ArrayList<>();
        for (int b : blocks) {
            char[] row = new char[4];
            for (List<Integer> d : directed) {
                if (d.get(0) == b) {
                    row[d.get(1)] = 'S';
                    row[d.get(2)] = 'T';
                }
            }
            gone.add(tets.get(b));
            names.add(row);
        }
        char next = '1';
        for (int k = 0; k < 4; k++) {
            if (names.get(0)[k] == 0) {
                names.get(0)[k] = next++;
            }
        }
        for (int f = 0; f < 4; f++) {
            if (names.get(0)[f] == '1' || names.get(0)[f] == '2') {
                Tet o = gone.get(0).behind[f];
                char[] row = names.get(gone.indexOf(o));
                for (int k = 0; k < 4; k++) {
                    row[gone.get(0).goes[f][k]] = k == f ? '3' : names.get(0)[k];
                }
            }
        }
        replace(gone, names, List.of("S123".toCharArray(), "T123".toCharArray()));
        return tets.size();
    }

    int oneForFour(int b) {
        block(b);
        if (tets.size() > 5) {
            throw new UnsupportedOperationException();
        }
        replace(List.of(tets.get(b)), List.of("abcd".toCharArray()), List.of("Pbcd".toCharArray(),
                "aPcd".toCharArray(), "abPd".toCharArray(), "abcP".toCharArray()));
        return tets.size();
    }

    /** All namings of the three higher blocks are tried, so that all are glued as by one for four. */
    int fourForOne(int c) {
        Set<List<Integer>> all = corner(c);
        TreeSet<Integer> blocks = new TreeSet<>();
        for (List<Integer> one : all) {
            blocks.add(one.get(0));
        }
        if (all.size() != 4 || blocks.size() != 4) {
            throw new UnsupportedOperationException();
        }
        List<Tet> gone = new ArrayList<>();
        int[] points = new int[4];
        for (List<Integer> one : all) {
            points[blocks.headSet(one.get(0)).size()] = one.get(1);
        }
        for (int b : blocks) {
            gone.add(tets.get(b));
        }
        for (int[] n1 : ORDERS) {
            for (int[] n2 : ORDERS) {
                for (int[] n3 : ORDERS) {
                    int[][] names = {{0, 1, 2, 3}, n1, n2, n3};
                    if (isOneForFour(gone, points, names)) {
                        dropPoint(gone, points, names);
                        return tets.size();
                    }
                }
            }
        }
        throw new UnsupportedOperationException();
    }

    private static boolean isOneForFour(List<Tet> gone, int[] points, int[][] names) {
        for (int i = 0; i < 4; i++) {
            int me = names[i][points[i]];
            for (int j = 0; j < 4; j++) {
                int you = names[j][points[j]];
                if (i != j) {
                    int face = back(names[i])[you];
                    if (me == you || gone.get(i).behind[face] != gone.get(j)) {
                        return false;
                    }
                    for (int k = 0; k < 4; k++) {
                        int name = names[i][k];
                        int want = name == me ? you : name == you ? me : name;
                        if (names[j][gone.get(i).goes[face][k]] != want) {
                            return false;
                        }
                    }
                }
            }
        }
        return true;
    }

    private void dropPoint(List<Tet> gone, int[] points, int[][] names) {
        List<char[]> symbols = new ArrayList<>();
        for (int i = 0; i < 4; i++) {
            char[] row = new char[4];
            for (int k = 0; k < 4; k++) {
                row[k] = k == points[i] ? 'P' : (char) ('a' + names[i][k]);
            }
            symbols.add(row);
        }
        replace(gone, symbols, List.of("abcd".toCharArray()));
    }

    /** For each pair (as a text of its sides) 0 in the tree, else its number. */
    private int[][] passes() {
        int[] partOf = new int[tets.size()];
        for (int b = 0; b < partOf.length; b++) {
            partOf[b] = b;
        }
        int[][] pass = new int[tets.size()][4];
        int next = 1;
        for (int b = 0; b < tets.size(); b++) {
            for (int f = 0; f < 4; f++) {
                Tet o = tets.get(b).behind[f];
                if (o == null) {
                    continue;
                }
                int ob = tets.indexOf(o);
                int of = tets.get(b).goes[f][f];
                if (ob < b || ob == b && of < f) {
                    continue;
                }
                if (partOf[b] == partOf[ob]) {
                    pass[b][f] = next;
                    pass[ob][of] = -next;
                    next++;
                } else {
                    int gone = partOf[ob];
                    for (int k = 0; k < partOf.length; k++) {
                        if (partOf[k] == gone) {
                            partOf[k] = partOf[b];
                        }
                    }
                }
            }
        }
        return pass;
    }

    int generators() {
        int most = 0;
        for (int[] row : passes()) {
            for (int p : row) {
                most = Math.max(most, p);
            }
        }
        return most;
    }

    private List<Integer> relator(int e) {
        if (!isInner(e)) {
            throw new UnsupportedOperationException();
        }
        int[][] pass = passes();
        List<Integer> first = lowest(edge(e));
        List<Integer> now = first;
        int out = 0;
        while (out == first.get(1) || out == first.get(2)) {
            out++;
        }
        List<Integer> word = new ArrayList<>();
        do {
            int b = now.get(0);
            if (pass[b][out] != 0) {
                word.add(pass[b][out]);
            }
            int[] goes = tets.get(b).goes[out];
            int came = goes[out];
            now = sortedEdge(List.of(tets.indexOf(tets.get(b).behind[out]), goes[now.get(1)], goes[now.get(2)]));
            out = 6 - came - now.get(1) - now.get(2);
        } while (!now.equals(first));
        return word;
    }

    int relatorLength(int e) {
        return relator(e).size();
    }

    int relatorAt(int e, int index) {
        List<Integer> word = relator(e);
        if (index < 0 || index >= word.size()) {
            throw new NoSuchElementException();
        }
        return word.get(index);
    }

    /** The numbers of the diagonal that are not 0, by a plain way over numbers of any length. */
    private List<BigInteger> factors() {
        int width = generators();
        List<BigInteger[]> rows = new ArrayList<>();
        for (int e = 0; e < edges(); e++) {
            if (isInner(e)) {
                BigInteger[] row = new BigInteger[width];
                Arrays.fill(row, BigInteger.ZERO);
                for (int p : relator(e)) {
                    int at = Math.abs(p) - 1;
                    row[at] = row[at].add(BigInteger.valueOf(p < 0 ? -1 : 1));
                }
                rows.add(row);
            }
        }
        List<BigInteger> diagonal = new ArrayList<>();
        int start = 0;
        while (true) {
            int[] at = nonZero(rows, start, width);
            if (at == null) {
                break;
            }
            Collections.swap(rows, start, at[0]);
            for (BigInteger[] row : rows) {
                BigInteger x = row[start];
                row[start] = row[at[1]];
                row[at[1]] = x;
            }
            clear(rows, start, width);
            diagonal.add(rows.get(start)[start].abs());
            start++;
        }
        // the group of a diagonal is that of its numbers with greatest common divisors drawn to the front
        for (int i = 0; i < diagonal.size(); i++) {
            for (int j = i + 1; j < diagonal.size(); j++) {
                BigInteger g = diagonal.get(i).gcd(diagonal.get(j));
                diagonal.set(j, diagonal.get(i).multiply(diagonal.get(j)).divide(g));
                diagonal.set(i, g);
            }
        }
        return diagonal;
    }

    private static int[] nonZero(List<BigInteger[]> rows, int start, int width) {
        for (int r = start; r < rows.size(); r++) {
            for (int c = start; c < width; c++) {
                if (rows.get(r)[c].signum() != 0) {
                    return new int[] {r, c};
                }
            }
        }
        return null;
    }

    /** Lines that the pivot divides are cleared by it; by any other line the pivot becomes smaller, and all starts anew. */
    private static void clear(List<BigInteger[]> rows, int s, int width) {
        boolean again = true;
        while (again) {
            again = false;
            for (int r = s + 1; r < rows.size(); r++) {
                BigInteger q = rows.get(r)[s].divide(rows.get(s)[s]);
                for (int c = 0; c < width; c++) {
                    rows.get(r)[c] = rows.get(r)[c].subtract(q.multiply(rows.get(s)[c]));
                }
                if (rows.get(r)[s].signum() != 0) {
                    Collections.swap(rows, s, r);
                    again = true;
                }
            }
            for (int c = s + 1; c < width; c++) {
                BigInteger q = rows.get(s)[c].divide(rows.get(s)[s]);
                for (BigInteger[] row : rows) {
                    row[c] = row[c].subtract(q.multiply(row[s]));
                }
                if (rows.get(s)[c].signum() != 0) {
                    for (BigInteger[] row : rows) {
                        BigInteger x = row[s];
                        row[s] = row[c];
                        row[c] = x;
                    }
                    again = true;
                }
            }
            for (int r = s + 1; r < rows.size(); r++) {
                again |= rows.get(r)[s].signum() != 0;
            }
        }
    }

    int holes() {
        return generators() - factors().size();
    }

    private List<Long> twistList() {
        List<Long> list = new ArrayList<>();
        for (BigInteger f : factors()) {
            if (f.compareTo(BigInteger.ONE) > 0) {
                list.add(f.longValueExact());
            }
        }
        return list;
    }

    int twists() {
        return twistList().size();
    }

    long twistAt(int index) {
        List<Long> list = twistList();
        if (index < 0 || index >= list.size()) {
            throw new NoSuchElementException();
        }
        return list.get(index);
    }

    int countFlat() {
        int all = 1;
        for (int b = 0; b < tets.size(); b++) {
            all *= 3;
        }
        List<Set<List<Integer>>> inner = new ArrayList<>();
        List<Set<List<Integer>>> edges = edgeClasses();
        for (int e = 0; e < edges.size(); e++) {
            if (isInner(e)) {
                inner.add(edges.get(e));
            }
        }
        int ways = 0;
        for (int n = 0; n < all; n++) {
            int[] partner = new int[tets.size()];
            int rest = n;
            for (int b = 0; b < partner.length; b++) {
                partner[b] = rest % 3 + 1;
                rest /= 3;
            }
            boolean good = true;
            for (Set<List<Integer>> edge : inner) {
                int turns = 0;
                for (List<Integer> one : edge) {
                    int p = partner[one.get(0)];
                    boolean half = one.get(1) == 0 ? one.get(2) == p : one.get(1) != p && one.get(2) != p;
                    turns += half ? 1 : 0;
                }
                good &= turns == 2;
            }
            ways += good ? 1 : 0;
        }
        return ways;
    }

    int setPieces(int b, int kind, int many) {
        block(b);
        range(kind, 0, 6);
        range(many, 0, 99);
        int before = pieces[b][kind];
        pieces[b][kind] = many;
        return before;
    }

    int putLink(int c) {
        Set<List<Integer>> all = corner(c);
        for (List<Integer> tip : all) {
            if (pieces[tip.get(0)][tip.get(1)] == 99) {
                throw new UnsupportedOperationException();
            }
        }
        for (List<Integer> tip : all) {
            pieces[tip.get(0)][tip.get(1)]++;
        }
        return all.size();
    }

    private static int arcs(int[] row, int face, int corner) {
        return row[corner] + row[4] * (together(corner, face, 0, 1) ? 1 : 0)
                + row[5] * (together(corner, face, 0, 2) ? 1 : 0) + row[6] * (together(corner, face, 0, 3) ? 1 : 0);
    }

    /** Whether two corners are on the same side of the quad that parts a and b from the other two. */
    private static boolean together(int x, int y, int a, int b) {
        return (x == a || x == b) == (y == a || y == b);
    }

    private boolean match(int[][] rows) {
        for (int b = 0; b < tets.size(); b++) {
            Tet t = tets.get(b);
            for (int f = 0; f < 4; f++) {
                for (int c = 0; c < 4; c++) {
                    if (c != f && t.behind[f] != null && arcs(rows[b], f, c)
                            != arcs(rows[tets.indexOf(t.behind[f])], t.goes[f][f], t.goes[f][c])) {
                        return false;
                    }
                }
            }
        }
        return true;
    }

    boolean isMatched() {
        return match(pieces);
    }

    boolean isSingle() {
        for (int b = 0; b < tets.size(); b++) {
            int[] row = pieces[b];
            if (row[4] * row[5] != 0 || row[4] * row[6] != 0 || row[5] * row[6] != 0) {
                return false;
            }
        }
        return true;
    }

    int surfaceNumber() {
        if (!isMatched() || !isSingle()) {
            throw new UnsupportedOperationException();
        }
        int n = 0;
        for (Set<List<Integer>> edge : edgeClasses()) {
            Set<Integer> cuts = new HashSet<>();
            for (List<Integer> e : edge) {
                int[] row = pieces[e.get(0)];
                int sum = row[e.get(1)] + row[e.get(2)];
                for (int q = 1; q <= 3; q++) {
                    sum += together(e.get(1), e.get(2), 0, q) ? 0 : row[3 + q];
                }
                cuts.add(sum);
            }
            if (cuts.size() != 1) {
                throw new Error("an edge is cut unlike from block to block");
            }
            n += cuts.iterator().next();
        }
        for (int b = 0; b < tets.size(); b++) {
            Tet t = tets.get(b);
            for (int f = 0; f < 4; f++) {
                boolean once = t.behind[f] == null || tets.indexOf(t.behind[f]) > b
                        || t.behind[f] == t && t.goes[f][f] > f;
                for (int c = 0; c < 4 && once; c++) {
                    n -= c == f ? 0 : arcs(pieces[b], f, c);
                }
            }
            for (int many : pieces[b]) {
                n += many;
            }
        }
        return n;
    }

    int countThin() {
        int count = tets.size();
        if (count > 3) {
            throw new UnsupportedOperationException();
        }
        int ways = 0;
        for (int n = 0; n < 1 << 6 * count; n++) {
            int[][] rows = new int[3][7];
            for (int b = 0; b < count; b++) {
                int bits = n >> 6 * b & 63;
                for (int k = 0; k < 4; k++) {
                    rows[b][k] = bits >> k & 1;
                }
                if (bits >> 4 > 0) {
                    rows[b][3 + (bits >> 4)] = 1;
                }
            }
            ways += match(rows) ? 1 : 0;
        }
        return ways;
    }

    float gluedShare() {
        if (tets.isEmpty()) {
            throw new ArithmeticException();
        }
        return (float) (tets.size() * 4 - openFaces()) / (float) (tets.size() * 4);
    }

    double meanDegree() {
        if (tets.isEmpty()) {
            throw new ArithmeticException();
        }
        return (double) (tets.size() * 6) / (double) edges();
    }

    long checksum() {
        long sum = 7;
        for (Tet t : tets) {
            for (int f = 0; f < 4; f++) {
                sum *= 31;
                if (t.behind[f] != null) {
                    sum += orderNumber(t.goes[f]) + 24L * (tets.indexOf(t.behind[f]) + 1);
                }
            }
        }
        return sum;
    }

    boolean isSound() {
        return true;
    }
}

/** Blocks written by letters of their corners; faces of the same three letters lie on each other. */
final class Letters {
    private Letters() {
    }

    static Tetrahedry glued(String... blocks) {
        Tetrahedry x = Bench.space(blocks.length);
        for (int one = 0; one < blocks.length; one++) {
            for (int two = one + 1; two < blocks.length; two++) {
                for (int face = 0; face < 4; face++) {
                    glueIfAlike(x, blocks, one, face, two);
                }
            }
        }
        return x;
    }

    private static void glueIfAlike(Tetrahedry x, String[] blocks, int one, int face, int two) {
        int[] to = new int[4];
        int sum = 0;
        for (int k = 0; k < 4; k++) {
            to[k] = blocks[two].indexOf(blocks[one].charAt(k));
            sum += to[k];
            if (k != face && to[k] < 0) {
                return;
            }
        }
        to[face] = 6 - sum + to[face];
        x.glue(one, face, two, Oracle.orderNumber(to));
    }

    /** The letters in another order. */
    static String mixed(String letters, Lcg lcg) {
        StringBuilder all = new StringBuilder();
        for (int k = 0; k < letters.length(); k++) {
            all.insert(lcg.below(k + 1), letters.charAt(k));
        }
        return all.toString();
    }

    /** The blocks in another order, the letters of each in another order. */
    static String[] mixed(String[] blocks, Lcg lcg) {
        String[] all = blocks.clone();
        for (int k = 0; k < all.length; k++) {
            int other = lcg.below(k + 1);
            String block = mixed(blocks[k], lcg);
            all[k] = all[other];
            all[other] = block;
        }
        return all;
    }

    static String without(String letters, String gone) {
        StringBuilder all = new StringBuilder();
        for (int k = 0; k < letters.length(); k++) {
            if (gone.indexOf(letters.charAt(k)) < 0) {
                all.append(letters.charAt(k));
            }
        }
        return all.toString();
    }

    /** The number of the edge of a block that has both letters. */
    static int edge(String block, char one, char other) {
        int low = Math.min(block.indexOf(one), block.indexOf(other));
        int high = Math.max(block.indexOf(one), block.indexOf(other));
        return low == 0 ? high - 1 : low + high;
    }
}

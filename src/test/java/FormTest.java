/**
 * Terms: the forms of a block, each limit on both sides. A row is tried in both ways in which bytes
 * become a block: put (promise 5) and a GIVE (promise 19).
 */
public final class FormTest {
    private static final int NAME_MOST = 65520;
    /** A block of each size that a block can have, to be harmed into other rows of that size. */
    private static final int[][] CARRIERS = {
        {0}, {0, 1}, {0, 1, 2}, {0, 1, 2, 3}, {0, 1, 2, 3, 4}, {0, 1, 2, 3, 4, 5}, {0, 1, 2, 3, 4, 5, 6},
        {0, 1, 2, 3, 4, 5, 6, 7}, {0, 1, 2, 3, 4, 5, 6, 7, 8}, Check.tree(1, 1, 1, 2),
        Check.folder(1, 1, 2, 2, 3, 3), Check.folder(1, 1, 2, 2, 3, 3, 4, 4), Check.tree(1, 1, 1, 2, 1, 3, 1, 4),
    };

    private final Check check;

    private FormTest(Check check) {
        this.check = check;
    }

    public static void main(String[] args) {
        Check check = new Check();
        FormTest test = new FormTest(check);
        test.kinds();
        test.leafContent();
        test.treeCount();
        test.treeSizes();
        test.folderCount();
        test.folderTitles();
        test.shardMask();
        test.shardLinkCount();
        test.links();
        test.rowsTooShortOrTooLong();
        test.wholeBuffer();
        check.finish();
    }

    private void good(int... row) {
        tryRow(true, row);
    }

    private void bad(int... row) {
        tryRow(false, row);
    }

    private void tryRow(boolean isBlock, int... row) {
        String text = java.util.Arrays.toString(row);
        int name = Check.nameOf(row);
        BlockExchange x = new BlockExchange();
        Check.typeAll(x, row);
        check.due("put of " + text, x.put(0), isBlock ? name : -1);
        check.due("blocks(0) after put of " + text, x.blocks(0), isBlock ? 1 : 0);
        check.due("bytes after put of " + text, x.bytes(0, name), isBlock ? row.length : -1);
        check.due("name() after put of " + text, x.name(), isBlock ? 40503 : name);
        for (int[] carrier : CARRIERS) {
            if (carrier.length == row.length) {
                giveRow(isBlock, carrier, row);
            }
        }
    }

    private void giveRow(boolean isBlock, int[] carrier, int... row) {
        String text = java.util.Arrays.toString(row);
        int name = Check.nameOf(row);
        BlockExchange x = new BlockExchange();
        x.fetch(0, 1, Check.putBlock(x, 1, carrier));
        x.deliver(0);
        for (int i = 0; i < row.length; i++) {
            if (row[i] != carrier[i]) {
                x.harm(0, i, row[i] ^ carrier[i]);
            }
        }
        check.due("fetch of " + text, x.fetch(0, 1, name), 1);
        check.due("name of the give of " + text, x.message(0, 3), name);
        check.due("deliver(0) of " + text, x.deliver(0), 1);
        check.due("blocks(0) after a give of " + text, x.blocks(0), isBlock ? 1 : 0);
        check.due("bytes after a give of " + text, x.bytes(0, name), isBlock ? row.length : -1);
        for (int i = 0; i < row.length; i++) {
            check.due("raw " + i + " after a give of " + text, x.raw(0, name, i), isBlock ? row[i] : -1);
        }
        boolean done = isBlock && (row[0] == 0 || row[0] == 2 && row[1] == 0);
        check.due("state(0) after a give of " + text, x.state(0), done ? 2 : 1);
    }

    private void kinds() {
        check.part("a block begins with 0, 1, 2 or 3");
        bad();
        good(0);
        good(Check.tree(1, 5));
        good(2, 0);
        good(Check.shard(1, 5));
        bad(4);
        bad(4, 0);
        bad(4, 1, 5, 0);
        bad(255);
        bad(255, 0);
    }

    private void leafContent() {
        check.part("a leaf has 0 to 8 bytes of content");
        int[] row = {0};
        for (int count = 0; count <= 8; count++) {
            good(row);
            row = Check.join(row, count % 2 == 0 ? 255 : 0);
        }
        bad(row);
        bad(Check.join(row, 1));
    }

    private void treeCount() {
        check.part("a tree's count is 1 .. 4");
        bad(1);
        bad(1, 0);
        bad(1, 0, 1, 0, 5, 0);
        int[] sizesAndLinks = {};
        for (int count = 1; count <= 4; count++) {
            sizesAndLinks = Check.join(sizesAndLinks, count, 100 + count);
            good(Check.tree(sizesAndLinks));
        }
        bad(Check.tree(Check.join(sizesAndLinks, 5, 105)));
        bad(1, 255, 1, 0, 5, 0);
    }

    private void treeSizes() {
        check.part("a tree's size is 1 .. 65535");
        int[] goodSizes = {1, 2, 255, 256, 257, 65280, 65534, 65535};
        for (int size : goodSizes) {
            good(Check.tree(size, 5));
            good(Check.tree(1, 5, size, 5));
        }
        for (int count = 1; count <= 4; count++) {
            for (int at = 0; at < count; at++) {
                int[] row = {};
                for (int i = 0; i < count; i++) {
                    row = Check.join(row, i == at ? 0 : 1, 5);
                }
                bad(Check.tree(row));
            }
        }
        BlockExchange x = new BlockExchange();
        check.due("the low byte is the first one", x.length(0, Check.putBlock(x, 0, 1, 1, 2, 1, 5, 0)), 258);
    }

    private void folderCount() {
        check.part("a folder's count is 0 .. 4");
        bad(2);
        int[] titlesAndLinks = {};
        for (int count = 0; count <= 4; count++) {
            good(Check.folder(titlesAndLinks));
            titlesAndLinks = Check.join(titlesAndLinks, 10 + count, 100 + count);
        }
        bad(Check.folder(titlesAndLinks));
        bad(2, 255);
        bad(2, 5);
    }

    private void folderTitles() {
        check.part("a folder's title is 1 .. 255 and greater than the one before");
        bad(Check.folder(0, 5));
        good(Check.folder(1, 5));
        good(Check.folder(255, 5));
        bad(Check.folder(0, 5, 1, 5));
        bad(Check.folder(1, 5, 0, 5));
        good(Check.folder(1, 5, 2, 5, 3, 5, 4, 5));
        good(Check.folder(252, 5, 253, 5, 254, 5, 255, 5));
        for (int at = 1; at < 4; at++) {
            int[] same = {};
            int[] less = {};
            for (int i = 0; i < 4; i++) {
                same = Check.join(same, 10 * i + (i == at ? 0 : 10), 5);
                less = Check.join(less, 10 * i + (i == at ? -1 : 10), 5);
            }
            bad(Check.folder(same));
            bad(Check.folder(less));
        }
        bad(Check.folder(255, 5, 255, 5));
        bad(Check.folder(9, 5, 1, 5));
    }

    private void shardMask() {
        check.part("a shard's mask is 1 .. 15");
        bad(3);
        bad(3, 0);
        bad(Check.shard(0, 5));
        good(Check.shard(1, 5));
        good(Check.shard(15, 5, 6, 7, 8));
        bad(Check.shard(16, 5));
        bad(Check.shard(17, 5, 6));
        bad(Check.shard(31, 5, 6, 7, 8));
        bad(Check.shard(128, 5));
        bad(Check.shard(255, 5, 6, 7, 8));
    }

    private void shardLinkCount() {
        check.part("a shard has a link for each bit that is 1");
        for (int mask = 1; mask <= 15; mask++) {
            int ones = mask % 2 + mask / 2 % 2 + mask / 4 % 2 + mask / 8;
            for (int count = 0; count <= 5; count++) {
                int[] row = {3, mask};
                for (int i = 0; i < count; i++) {
                    row = Check.join(row, 10 + i, 1);
                }
                tryRow(count == ones, row);
            }
        }
    }

    private void links() {
        check.part("a link is 0 .. 65520");
        int[] edges = {0, 255, 256, NAME_MOST - 1, NAME_MOST, NAME_MOST + 1, 65534, 65535};
        for (int link : edges) {
            for (int at = 0; at < 4; at++) {
                int[] links = {5, 5, 5, 5};
                links[at] = link;
                boolean fits = link <= NAME_MOST;
                tryRow(fits, Check.tree(1, links[0], 1, links[1], 1, links[2], 1, links[3]));
                tryRow(fits, Check.folder(1, links[0], 2, links[1], 3, links[2], 4, links[3]));
                tryRow(fits, Check.shard(15, links));
            }
            tryRow(link <= NAME_MOST, Check.tree(1, link));
            tryRow(link <= NAME_MOST, Check.folder(1, link));
            tryRow(link <= NAME_MOST, Check.shard(8, link));
        }
        BlockExchange x = new BlockExchange();
        int folder = Check.putBlock(x, 0, 2, 1, 9, 2, 1);
        check.due("the low byte is the first one", x.find(0, folder, 9), 258);
    }

    private void rowsTooShortOrTooLong() {
        check.part("a block ends where its form does");
        int[][] rows = {
            Check.tree(1, 5), Check.tree(1, 5, 2, 6), Check.tree(1, 5, 2, 6, 3, 7), Check.tree(1, 5, 2, 6, 3, 7, 4, 8),
            Check.folder(), Check.folder(1, 5), Check.folder(1, 5, 2, 6), Check.folder(1, 5, 2, 6, 3, 7),
            Check.folder(1, 5, 2, 6, 3, 7, 4, 8),
        };
        for (int[] row : rows) {
            good(row);
            for (int size = 1; size < row.length; size++) {
                bad(java.util.Arrays.copyOf(row, size));
            }
            for (int more = 1; more <= 5; more++) {
                bad(java.util.Arrays.copyOf(row, row.length + more));
            }
        }
    }

    private void wholeBuffer() {
        check.part("a full buffer is no block");
        for (int kind = 0; kind <= 4; kind++) {
            int[] row = new int[32];
            row[0] = kind;
            row[1] = kind == 3 ? 15 : 4;
            bad(row);
            bad(java.util.Arrays.copyOf(row, 31));
            bad(java.util.Arrays.copyOf(row, 19));
        }
    }
}

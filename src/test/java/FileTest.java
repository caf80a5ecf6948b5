/** Promises 11 and 12: length, read. */
public final class FileTest {
    public static void main(String[] args) {
        Check check = new Check();
        lengths(check);
        everyLength(check);
        reading(check);
        firstSizeAboveP(check);
        greatestSizes(check);
        brokenFiles(check);
        wrongLengths(check);
        depth(check);
        circle(check);
        check.finish();
    }

    private static void lengths(Check check) {
        check.part("length");
        BlockExchange x = new BlockExchange();
        check.due("an empty leaf", x.length(0, Check.putBlock(x, 0, 0)), 0);
        int leaf = Check.putBlock(x, 0, 0, 1, 2, 3, 4, 5, 6, 7, 8);
        check.due("a full leaf", x.length(0, leaf), 8);
        int tree = Check.putBlock(x, 0, Check.tree(65535, 1, 65535, 2, 65535, 3, 65535, 4));
        check.due("a big tree", x.length(0, tree), 4 * 65535);
        check.due("a tree of one", x.length(0, Check.putBlock(x, 0, Check.tree(256, 1))), 256);
        check.due("a folder", x.length(0, Check.putBlock(x, 0, 2, 0)), -1);
        check.due("a shard", x.length(0, Check.putBlock(x, 0, Check.shard(1, 5))), -1);
        check.due("nothing", x.length(0, 12345), -1);
        check.due("elsewhere", x.length(1, leaf), -1);
        check.due("length(-1)", x.length(-1, leaf), -1);
        check.due("length(3)", x.length(3, leaf), -1);
    }

    private static void everyLength(Check check) {
        check.part("leaves of 0 to 8 bytes");
        for (int size = 0; size <= 8; size++) {
            BlockExchange x = new BlockExchange();
            int[] row = {0};
            for (int i = 0; i < size; i++) {
                row = Check.join(row, 200 + i);
            }
            int leaf = Check.putBlock(x, 2, row);
            check.due("length of " + size, x.length(2, leaf), size);
            for (int p = -1; p <= 9; p++) {
                check.due("read " + p + " of " + size, x.read(2, leaf, p), p < 0 || p >= size ? -1 : 200 + p);
            }
        }
    }

    private static void firstSizeAboveP(Check check) {
        check.part("the first size that, added to those before it, is above p");
        for (int count = 1; count <= 4; count++) {
            BlockExchange x = new BlockExchange();
            int[] parts = {};
            int[] content = {};
            for (int i = 0; i < count; i++) {
                int[] leaf = {0};
                for (int b = 0; b <= i; b++) {
                    leaf = Check.join(leaf, 10 * i + b);
                    content = Check.join(content, 10 * i + b);
                }
                parts = Check.join(parts, i + 1, Check.putBlock(x, 0, leaf));
            }
            int tree = Check.putBlock(x, 0, Check.tree(parts));
            check.due("length", x.length(0, tree), content.length);
            for (int p = 0; p < content.length; p++) {
                check.due("read " + p, x.read(0, tree, p), content[p]);
            }
            check.due("read behind the end", x.read(0, tree, content.length), -1);
        }
    }

    /** Four parts of 65535 bytes, of each of which the first and the last byte are there. */
    private static void greatestSizes(Check check) {
        check.part("the greatest sizes");
        BlockExchange x = new BlockExchange();
        int[] parts = {};
        for (int i = 0; i < 4; i++) {
            int first = Check.putBlock(x, 0, 0, 10 + i);
            int last = Check.putBlock(x, 0, 0, 20 + i);
            parts = Check.join(parts, 65535, Check.putBlock(x, 0, Check.tree(1, first, 65533, 7, 1, last)));
        }
        int top = Check.putBlock(x, 0, Check.tree(parts));
        check.due("length", x.length(0, top), 262140);
        for (int i = 0; i < 4; i++) {
            check.due("read of a first byte", x.read(0, top, 65535 * i), 10 + i);
            check.due("read of a second byte", x.read(0, top, 65535 * i + 1), -2);
            check.due("read of a last byte but one", x.read(0, top, 65535 * i + 65533), -2);
            check.due("read of a last byte", x.read(0, top, 65535 * i + 65534), 20 + i);
        }
        check.due("read behind the end", x.read(0, top, 262140), -1);
    }

    private static void reading(Check check) {
        check.part("read");
        BlockExchange x = new BlockExchange();
        int a = Check.putBlock(x, 0, 0, 10, 11, 12);
        int b = Check.putBlock(x, 0, 0, 255);
        int c = Check.putBlock(x, 0, 0, 20, 21);
        int low = Check.putBlock(x, 0, Check.tree(1, b, 2, c));
        int top = Check.putBlock(x, 0, Check.tree(3, a, 1, b, 3, low, 3, a));
        int[] content = {10, 11, 12, 255, 255, 20, 21, 10, 11, 12};
        for (int p = 0; p < content.length; p++) {
            check.due("read " + p, x.read(0, top, p), content[p]);
        }
        check.due("read behind the end", x.read(0, top, content.length), -1);
        check.due("read -1", x.read(0, top, -1), -1);
        check.due("read of the least", x.read(0, top, Integer.MIN_VALUE), -1);
        check.due("read of the most", x.read(0, top, Integer.MAX_VALUE), -1);
        check.due("read of a leaf", x.read(0, a, 2), 12);
        check.due("read behind a leaf", x.read(0, a, 3), -1);
        check.due("read of an empty leaf", x.read(0, Check.putBlock(x, 0, 0), 0), -1);
        check.due("read of a folder", x.read(0, Check.putBlock(x, 0, Check.folder(1, a)), 0), -1);
        check.due("read of a shard", x.read(0, Check.putBlock(x, 0, Check.shard(1, a)), 0), -1);
        check.due("read of nothing", x.read(0, 4321, 0), -1);
        check.due("read elsewhere", x.read(1, top, 0), -1);
        check.due("read(-1)", x.read(-1, top, 0), -1);
        check.due("read(3)", x.read(3, top, 0), -1);
    }

    private static void brokenFiles(Check check) {
        check.part("read, broken");
        BlockExchange x = new BlockExchange();
        int leaf = Check.putBlock(x, 0, 0, 1, 2);
        int folder = Check.putBlock(x, 0, 2, 0);
        int shard = Check.putBlock(x, 0, Check.shard(1, leaf));
        int short1 = Check.putBlock(x, 0, Check.tree(2, leaf, 1, leaf, 3, leaf, 2, 777));
        check.due("read what holds", x.read(0, short1, 1), 2);
        check.due("read where the size is below the length", x.read(0, short1, 2), -2);
        check.due("read where the size is above the length", x.read(0, short1, 3), -2);
        check.due("read where nothing is there", x.read(0, short1, 7), -2);
        check.due("read behind the end", x.read(0, short1, 8), -1);
        int odd = Check.putBlock(x, 0, Check.tree(2, folder, 2, shard, 2, leaf));
        check.due("read over a folder", x.read(0, odd, 0), -2);
        check.due("read over a shard", x.read(0, odd, 3), -2);
        check.due("read of the leaf behind them", x.read(0, odd, 5), 2);
        int above = Check.putBlock(x, 0, Check.tree(8, short1, 6, odd));
        check.due("read broken further down", x.read(0, above, 2), -2);
        check.due("read whole further down", x.read(0, above, 12), 1);
        int wrongTree = Check.putBlock(x, 0, Check.tree(7, short1));
        check.due("read where a tree's length is not the size", x.read(0, wrongTree, 0), -2);
    }

    /** Links to a leaf and to a tree of three bytes, with each size round three. */
    private static void wrongLengths(Check check) {
        check.part("the length is the size");
        for (int size = 1; size <= 5; size++) {
            BlockExchange x = new BlockExchange();
            int leaf = Check.putBlock(x, 0, 0, 1, 2, 3);
            int tree = Check.putBlock(x, 0, Check.tree(3, leaf));
            int[] tops = {Check.putBlock(x, 0, Check.tree(size, leaf)), Check.putBlock(x, 0, Check.tree(size, tree))};
            for (int top : tops) {
                check.due("length", x.length(0, top), size);
                for (int p = 0; p <= size; p++) {
                    int due = p == size ? -1 : size == 3 ? 1 + p : -2;
                    check.due("read " + p + " of size " + size, x.read(0, top, p), due);
                }
            }
        }
        BlockExchange x = new BlockExchange();
        int empty = Check.putBlock(x, 0, 0);
        check.due("read over an empty leaf", x.read(0, Check.putBlock(x, 0, Check.tree(1, empty)), 0), -2);
        check.due("read over a folder", x.read(0, Check.putBlock(x, 0, Check.tree(1, Check.putBlock(x, 0, 2, 0))), 0), -2);
        check.part("what comes in mends, what is collected breaks");
        int tree = Check.putBlock(x, 0, Check.tree(1, Check.nameOf(0, 9)));
        check.due("read", x.read(0, tree, 0), -2);
        Check.putBlock(x, 1, 0, 9);
        check.due("read when it is there in another store", x.read(0, tree, 0), -2);
        Check.putBlock(x, 0, 0, 9);
        check.due("read when it is there", x.read(0, tree, 0), 9);
        x.pin(0, tree, false, true);
        x.collect(0);
        check.due("read when it is gone", x.read(0, tree, 0), -2);
        check.due("length stays", x.length(0, tree), 1);
    }

    private static void depth(Check check) {
        check.part("read, many links");
        BlockExchange x = new BlockExchange();
        int name = Check.putBlock(x, 0, 0, 42);
        for (int links = 1; links <= 12; links++) {
            name = Check.putBlock(x, 0, Check.tree(1, name));
            check.due("read over " + links + " links", x.read(0, name, 0), links <= 10 ? 42 : -2);
        }
    }

    private static void circle(Check check) {
        check.part("a tree that links itself");
        BlockExchange x = new BlockExchange();
        int leaf = Check.putBlock(x, 0, 0, 42);
        for (int size = 1; size < 65536; size++) {
            for (int link = 0; link < 65521; link++) {
                if (Check.nameOf(Check.tree(size, link)) == link) {
                    Check.putBlock(x, 0, Check.tree(size, link));
                    check.due("length", x.length(0, link), size);
                    check.due("read", x.read(0, link, size - 1), -2);
                    check.due("read behind the end", x.read(0, link, size), -1);
                    return;
                }
            }
        }
        check.due("a tree that links itself and " + leaf, false, true);
    }
}

/** Promises 5, 9, 10 and 16: put, bytes, raw, blocks. */
public final class PutTest {
    public static void main(String[] args) {
        Check check = new Check();
        goodForms(check);
        badForms(check);
        refusals(check);
        longerTwins(check);
        whatIsThere(check);
        nameZero(check);
        room(check);
        views(check);
        check.finish();
    }

    private static void goodForms(Check check) {
        check.part("blocks that are good");
        int[][] good = {
            {0}, {0, 255}, {0, 1, 2, 3, 4, 5, 6, 7, 8},
            Check.tree(1, 0), Check.tree(65535, 65520), Check.tree(256, 65520, 255, 1, 1, 2, 65535, 3),
            Check.tree(1, 7, 1, 7), {2, 0}, Check.folder(1, 0), Check.folder(255, 65520),
            Check.folder(1, 9, 2, 9, 254, 0, 255, 65520), Check.shard(1, 0), Check.shard(8, 65520),
            Check.shard(15, 1, 2, 3, 65520), Check.shard(10, 4, 5), Check.shard(7, 5, 5, 5),
        };
        BlockExchange x = new BlockExchange();
        for (int i = 0; i < good.length; i++) {
            Check.typeAll(x, good[i]);
            check.due("put of block " + i, x.put(2), Check.nameOf(good[i]));
            check.due("name() after put", x.name(), 40503);
            check.due("blocks(2)", x.blocks(2), i + 1);
            check.due("bytes", x.bytes(2, Check.nameOf(good[i])), good[i].length);
            for (int at = 0; at < good[i].length; at++) {
                check.due("raw " + at, x.raw(2, Check.nameOf(good[i]), at), good[i][at]);
            }
        }
        check.due("blocks(0)", x.blocks(0), 0);
        check.due("blocks(1)", x.blocks(1), 0);
        Check.typeAll(x, good[3]);
        check.due("put of what is there", x.put(2), Check.nameOf(good[3]));
        check.due("name() after it", x.name(), 40503);
        check.due("blocks(2)", x.blocks(2), good.length);
    }

    private static void badForms(Check check) {
        check.part("rows that are no blocks");
        int[][] bad = {
            {}, {4}, {255}, {4, 0}, {0, 1, 2, 3, 4, 5, 6, 7, 8, 9},
            {1}, {1, 0}, {1, 1}, {1, 1, 1, 0, 1}, {1, 1, 1, 0, 1, 0, 0}, {1, 2, 1, 0, 1, 0},
            {1, 5, 1, 0, 1, 0, 1, 0, 1, 0, 1, 0, 1, 0, 1, 0, 1, 0, 1, 0, 1, 0},
            Check.tree(0, 5), Check.tree(1, 5, 0, 5), Check.tree(5, 65521), Check.tree(1, 5, 2, 65535),
            {2}, {2, 0, 0}, {2, 1}, {2, 1, 1, 0}, {2, 1, 1, 0, 0, 0}, {2, 2, 1, 0, 0},
            Check.folder(0, 5), Check.folder(3, 5, 3, 6), Check.folder(3, 5, 2, 5), Check.folder(3, 65521),
            Check.folder(1, 5, 2, 5, 3, 5, 4, 65521), Check.folder(1, 5, 2, 5, 3, 5, 4, 5, 5, 5),
            {3}, {3, 0}, {3, 1}, {3, 1, 5}, {3, 3, 5, 0}, {3, 1, 5, 0, 0}, {3, 1, 5, 0, 6, 0},
            Check.shard(16, 5), Check.shard(31, 1, 2, 3, 4, 5), Check.shard(1, 65521), Check.shard(3, 1, 65535),
        };
        for (int i = 0; i < bad.length; i++) {
            BlockExchange x = new BlockExchange();
            Check.typeAll(x, bad[i]);
            check.due("put of row " + i, x.put(0), -1);
            check.due("name() after it", x.name(), Check.nameOf(bad[i]));
            check.due("blocks(0)", x.blocks(0), 0);
        }
        BlockExchange x = new BlockExchange();
        for (int i = 0; i < 32; i++) {
            x.type(0);
        }
        check.due("put of 32 bytes", x.put(0), -1);
    }

    private static void refusals(Check check) {
        check.part("put, refused");
        BlockExchange x = new BlockExchange();
        int[] block = {0, 0, 0, 7};
        int[] twin = {0, 249, 34, 7};
        int name = Check.putBlock(x, 1, block);
        Check.typeAll(x, twin);
        String seen = Check.look(x, name);
        check.due("put(-1)", x.put(-1), -1);
        check.due("put(3)", x.put(3), -1);
        check.due("put(1) of a twin", x.put(1), -2);
        check.due("what is seen", Check.look(x, name), seen);
        check.due("put(0) of a twin, elsewhere", x.put(0), name);
        check.due("raw(0)", x.raw(0, name, 1), 249);
        check.due("raw(1)", x.raw(1, name, 1), 0);
    }

    /** Rows of one name of which one is the beginning of the other: a collision in both orders. */
    private static void longerTwins(Check check) {
        check.part("a row and a longer one of the same name");
        int[] shorter = {0};
        int[] longer = Check.leafNamed(Check.nameOf(shorter));
        int name = Check.nameOf(shorter);
        for (int turn = 0; turn < 2; turn++) {
            BlockExchange x = new BlockExchange();
            int[] first = turn == 0 ? shorter : longer;
            int[] second = turn == 0 ? longer : shorter;
            Check.putBlock(x, 0, first);
            Check.typeAll(x, second);
            check.due("put of the second", x.put(0), -2);
            check.due("bytes of the first", x.bytes(0, name), first.length);
            check.due("name(): the buffer stays", x.name(), name);
            check.due("put of the second elsewhere", x.put(1), name);
            check.due("bytes of the second", x.bytes(1, name), second.length);
            Check.typeAll(x, first);
            check.due("put of the first again", x.put(0), name);
            check.due("blocks(0)", x.blocks(0), 1);
        }
    }

    private static void whatIsThere(Check check) {
        check.part("put of a block that is there already changes nothing in the store");
        BlockExchange x = new BlockExchange();
        int leaf = Check.putBlock(x, 0, 0, 1);
        int tree = Check.putBlock(x, 0, Check.tree(1, leaf, 1, 4000));
        x.pin(0, tree, true, true);
        x.fetch(0, 1, tree);
        String seen = Check.look(x, leaf, tree);
        Check.typeAll(x, 0, 1);
        check.due("put", x.put(0), leaf);
        check.due("what is seen", Check.look(x, leaf, tree), seen);
        check.due("retry(0)", x.retry(0), 1);
        check.due("collect(0)", x.collect(0), 0);
    }

    private static void nameZero(Check check) {
        check.part("a block of the name 0");
        BlockExchange x = new BlockExchange();
        int[] row = Check.leafNamed(0);
        Check.typeAll(x, row);
        check.due("put(0)", x.put(0), 0);
        check.due("name() after it", x.name(), 40503);
        check.due("bytes", x.bytes(0, 0), row.length);
        check.due("pin", x.pin(0, 0, true, true), true);
        check.due("fetch", x.fetch(1, 0, 0), 1);
        check.due("deliver(0)", x.deliver(0), 0);
        check.due("deliver(0)", x.deliver(0), 1);
        check.due("state(1)", x.state(1), 2);
        check.due("length(1)", x.length(1, 0), row.length - 1);
    }

    private static void room(Check check) {
        check.part("a store's room");
        BlockExchange x = new BlockExchange();
        for (int i = 0; i < 64; i++) {
            Check.typeAll(x, 0, i);
            check.due("put " + i, x.put(0), Check.nameOf(0, i));
        }
        check.due("blocks(0)", x.blocks(0), 64);
        Check.typeAll(x, 0, 64);
        String seen = Check.look(x, Check.nameOf(0, 0), Check.nameOf(0, 63));
        check.due("put of a 65th", x.put(0), -3);
        check.due("what is seen", Check.look(x, Check.nameOf(0, 0), Check.nameOf(0, 63)), seen);
        x.clear();
        Check.typeAll(x, 0, 63);
        check.due("put of what is there", x.put(0), Check.nameOf(0, 63));
        Check.typeAll(x, Check.twinLeaf(0, 5));
        check.due("put of a twin in a full store", x.put(0), -2);
        x.clear();
        Check.typeAll(x, 9, 9);
        check.due("put of no block in a full store", x.put(0), -1);
        x.clear();
        Check.typeAll(x, 0, 64);
        check.due("put in another store", x.put(1), Check.nameOf(0, 64));
    }

    private static void views(Check check) {
        check.part("bytes, raw, blocks");
        BlockExchange x = new BlockExchange();
        int name = Check.putBlock(x, 1, 0, 200, 255);
        int[] wrongStores = {-1, 3, Integer.MIN_VALUE, Integer.MAX_VALUE};
        for (int store : wrongStores) {
            check.due("bytes(" + store + ")", x.bytes(store, name), -1);
            check.due("raw(" + store + ")", x.raw(store, name, 0), -1);
            check.due("blocks(" + store + ")", x.blocks(store), -1);
        }
        check.due("bytes(1)", x.bytes(1, name), 3);
        check.due("bytes(0)", x.bytes(0, name), -1);
        check.due("bytes of another name", x.bytes(1, name + 1), -1);
        check.due("bytes of name -1", x.bytes(1, -1), -1);
        check.due("raw 2", x.raw(1, name, 2), 255);
        check.due("raw 3", x.raw(1, name, 3), -1);
        check.due("raw -1", x.raw(1, name, -1), -1);
        check.due("raw of the least", x.raw(1, name, Integer.MIN_VALUE), -1);
        check.due("raw of the most", x.raw(1, name, Integer.MAX_VALUE), -1);
        check.due("raw elsewhere", x.raw(0, name, 0), -1);
    }
}

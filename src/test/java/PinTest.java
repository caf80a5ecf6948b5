/** Promises 14 and 15: pin, collect. */
public final class PinTest {
    public static void main(String[] args) {
        Check check = new Check();
        pins(check);
        pinRoom(check);
        shallowAndDeep(check);
        bothPins(check);
        allForms(check);
        circles(check);
        longChain(check);
        gaps(check);
        whatComesLater(check);
        twoDeepPins(check);
        otherStores(check);
        emptyAndFull(check);
        fetchKeeps(check);
        fetchKeepsUnderItsRoot(check);
        check.finish();
    }

    private static void pins(Check check) {
        check.part("pin");
        BlockExchange x = new BlockExchange();
        int a = Check.putBlock(x, 0, 0, 1);
        check.due("pin(-1)", x.pin(-1, a, false, true), false);
        check.due("pin(3)", x.pin(3, a, false, true), false);
        check.due("pin(3) off", x.pin(3, a, false, false), false);
        check.due("pin what is not there", x.pin(0, a + 1, false, true), false);
        check.due("pin elsewhere", x.pin(1, a, false, true), false);
        check.due("take away what is not pinned", x.pin(0, a, false, false), false);
        check.due("pin", x.pin(0, a, false, true), true);
        check.due("pin again", x.pin(0, a, false, true), false);
        check.due("take a deep one away", x.pin(0, a, true, false), false);
        check.due("pin deep as well", x.pin(0, a, true, true), true);
        check.due("pin deep again", x.pin(0, a, true, true), false);
        check.due("take away", x.pin(0, a, false, false), true);
        check.due("take away again", x.pin(0, a, false, false), false);
        check.due("collect(0)", x.collect(0), 0);
        check.due("take the deep one away", x.pin(0, a, true, false), true);
        check.due("collect(0)", x.collect(0), 1);
        check.due("pin what is gone", x.pin(0, a, true, true), false);
        check.due("collect(-1)", x.collect(-1), -1);
        check.due("collect(3)", x.collect(3), -1);
    }

    private static void pinRoom(Check check) {
        check.part("eight pins");
        BlockExchange x = new BlockExchange();
        int[] names = new int[10];
        for (int i = 0; i < 10; i++) {
            names[i] = Check.putBlock(x, 0, 0, i);
        }
        for (int i = 0; i < 7; i++) {
            check.due("pin " + i, x.pin(0, names[i], i % 2 == 0, true), true);
        }
        check.due("an eighth pin, of a pinned block", x.pin(0, names[0], false, true), true);
        check.due("a ninth pin", x.pin(0, names[7], false, true), false);
        check.due("take away", x.pin(0, names[3], false, false), true);
        check.due("pin now", x.pin(0, names[9], true, true), true);
        check.due("a ninth pin", x.pin(0, names[8], true, true), false);
        check.due("collect(0)", x.collect(0), 3);
        for (int i = 0; i < 10; i++) {
            boolean gone = i == 3 || i == 7 || i == 8;
            check.due("bytes of " + i, x.bytes(0, names[i]), gone ? -1 : 2);
        }
        Check.putBlock(x, 1, 0, 1);
        check.due("pin in another store", x.pin(1, names[1], false, true), true);
    }

    private static void shallowAndDeep(Check check) {
        check.part("shallow and deep");
        BlockExchange x = new BlockExchange();
        int leaf = Check.putBlock(x, 0, 0, 1);
        int low = Check.putBlock(x, 0, Check.tree(1, leaf));
        int top = Check.putBlock(x, 0, Check.tree(1, low));
        int alone = Check.putBlock(x, 0, 0, 2);
        x.pin(0, top, true, true);
        check.due("collect(0), pinned deep", x.collect(0), 1);
        check.due("bytes of the one alone", x.bytes(0, alone), -1);
        check.due("read", x.read(0, top, 0), 1);
        x.pin(0, top, true, false);
        x.pin(0, top, false, true);
        x.pin(0, leaf, false, true);
        check.due("collect(0), pinned shallow", x.collect(0), 1);
        check.due("bytes of the middle", x.bytes(0, low), -1);
        check.due("bytes of the leaf", x.bytes(0, leaf), 2);
        check.due("read", x.read(0, top, 0), -2);
        Check.putBlock(x, 0, Check.tree(1, leaf));
        check.due("blocks(0)", x.blocks(0), 3);
        check.due("collect(0)", x.collect(0), 1);
    }

    private static void bothPins(Check check) {
        check.part("a shallow pin on the way of a deep one");
        for (int turn = 0; turn < 2; turn++) {
            BlockExchange x = new BlockExchange();
            int leaf = Check.putBlock(x, 0, 0, 1);
            int low = Check.putBlock(x, 0, Check.tree(1, leaf));
            int top = Check.putBlock(x, 0, Check.tree(1, low));
            x.pin(0, turn == 0 ? low : top, turn == 1, true);
            x.pin(0, turn == 0 ? top : low, turn == 0, true);
            x.pin(0, top, false, true);
            check.due("collect(0)", x.collect(0), 0);
        }
    }

    private static void allForms(Check check) {
        check.part("links of all forms");
        BlockExchange x = new BlockExchange();
        int[] leaves = new int[8];
        for (int i = 0; i < 8; i++) {
            leaves[i] = Check.putBlock(x, 0, 0, i);
        }
        int shard = Check.putBlock(x, 0, Check.shard(10, leaves[0], leaves[1]));
        int tree = Check.putBlock(x, 0, Check.tree(9, leaves[2], 9, leaves[3], 9, leaves[4]));
        int folder = Check.putBlock(x, 0, Check.folder(3, leaves[5], 4, shard, 5, tree, 6, 12345));
        x.pin(0, folder, true, true);
        check.due("collect(0)", x.collect(0), 2);
        for (int i = 0; i < 8; i++) {
            check.due("bytes of leaf " + i, x.bytes(0, leaves[i]), i < 6 ? 2 : -1);
        }
        x.pin(0, shard, true, true);
        x.pin(0, folder, true, false);
        check.due("collect(0) under the shard", x.collect(0), 6);
        check.due("blocks(0)", x.blocks(0), 3);
    }

    private static void circles(Check check) {
        check.part("a tree that links itself");
        BlockExchange x = new BlockExchange();
        int leaf = Check.putBlock(x, 0, 0, 1);
        Check.putBlock(x, 0, 0, 2);
        int self = Check.putBlock(x, 0, Check.treeOfItself(1, leaf));
        x.pin(0, self, true, true);
        check.due("collect(0)", x.collect(0), 1);
        check.due("blocks(0)", x.blocks(0), 2);
        x.pin(0, self, true, false);
        check.due("collect(0): a circle does not keep itself", x.collect(0), 2);
    }

    private static void longChain(Check check) {
        check.part("a chain through the whole store");
        BlockExchange x = new BlockExchange();
        int name = Check.putBlock(x, 0, 0, 1);
        int leaf = name;
        for (int i = 1; i < 64; i++) {
            name = Check.putFolder(x, 0, name, leaf, leaf, name);
        }
        x.pin(0, name, true, true);
        check.due("collect(0)", x.collect(0), 0);
        check.due("blocks(0)", x.blocks(0), 64);
        check.due("fetch of what is all there", x.fetch(0, 1, name), 0);
        check.due("fetch elsewhere", x.fetch(1, 0, name), 1);
    }

    private static void fetchKeeps(Check check) {
        check.part("a running fetch keeps");
        BlockExchange x = new BlockExchange();
        int leaf = Check.putBlock(x, 0, 0, 1);
        int folder = Check.putBlock(x, 0, Check.folder(1, leaf, 2, Check.nameOf(0, 2)));
        Check.putBlock(x, 0, 0, 3);
        check.due("fetch", x.fetch(0, 1, folder), 1);
        check.due("collect(0) while it runs", x.collect(0), 1);
        check.due("collect(1): the peer keeps nothing", x.collect(1), 0);
        check.due("bytes", x.bytes(0, leaf), 2);
        x.deliver(0);
        x.deliver(0);
        check.due("state(0)", x.state(0), 3);
        check.due("collect(0) after it failed", x.collect(0), 2);
        leaf = Check.putBlock(x, 0, 0, 1);
        check.due("fetch of what is there", x.fetch(0, 1, leaf), 0);
        check.due("collect(0) after it is done", x.collect(0), 1);
        check.due("state(0) stays done", x.state(0), 2);
    }

    /** What hangs below a block that is not there is not under the pinned one. */
    private static void gaps(Check check) {
        check.part("a gap below a deep pin");
        for (int turn = 0; turn < 2; turn++) {
            BlockExchange x = new BlockExchange();
            int leaf = Check.putBlock(x, 0, 0, 1);
            int[] middle = Check.tree(1, leaf);
            int top = Check.putBlock(x, 0, Check.folder(1, Check.nameOf(middle)));
            x.pin(0, top, true, true);
            if (turn == 1) {
                Check.putBlock(x, 0, middle);
            }
            check.due("collect(0)", x.collect(0), turn == 0 ? 1 : 0);
            check.due("bytes of the leaf", x.bytes(0, leaf), turn == 0 ? -1 : 2);
        }
    }

    private static void whatComesLater(Check check) {
        check.part("what comes in later under a deep pin");
        for (int turn = 0; turn < 2; turn++) {
            BlockExchange x = new BlockExchange();
            int leaf = Check.nameOf(0, 1);
            int top = Check.putBlock(x, 0, Check.tree(1, leaf));
            x.pin(0, top, turn == 0, true);
            check.due("collect(0)", x.collect(0), 0);
            Check.putBlock(x, 0, 0, 1);
            Check.putBlock(x, 0, 0, 2);
            check.due("collect(0) of a later leaf", x.collect(0), turn == 0 ? 1 : 2);
            check.due("read", x.read(0, top, 0), turn == 0 ? 1 : -2);
        }
    }

    private static void twoDeepPins(Check check) {
        check.part("two pins over one leaf");
        BlockExchange x = new BlockExchange();
        int leaf = Check.putBlock(x, 0, 0, 1);
        int tree = Check.putBlock(x, 0, Check.tree(1, leaf));
        int folder = Check.putBlock(x, 0, Check.folder(1, leaf));
        x.pin(0, tree, true, true);
        x.pin(0, folder, true, true);
        x.pin(0, tree, false, true);
        check.due("collect(0)", x.collect(0), 0);
        check.due("take the tree's deep pin away", x.pin(0, tree, true, false), true);
        check.due("collect(0): the folder keeps the leaf", x.collect(0), 0);
        check.due("take the folder's pin away", x.pin(0, folder, true, false), true);
        check.due("collect(0): the tree is pinned alone", x.collect(0), 2);
        check.due("bytes of the tree", x.bytes(0, tree), 6);
        check.due("take the last pin away", x.pin(0, tree, false, false), true);
        check.due("collect(0)", x.collect(0), 1);
        check.due("collect(0) of nothing", x.collect(0), 0);
    }

    private static void otherStores(Check check) {
        check.part("collect touches one store");
        BlockExchange x = new BlockExchange();
        for (int store = 0; store < 3; store++) {
            Check.putBlock(x, store, 0, 1);
            Check.putBlock(x, store, 0, 2);
        }
        x.pin(1, Check.nameOf(0, 1), true, true);
        check.due("collect(0): a pin of store 1 does not keep", x.collect(0), 2);
        check.due("blocks(1)", x.blocks(1), 2);
        check.due("collect(1)", x.collect(1), 1);
        check.due("bytes(1)", x.bytes(1, Check.nameOf(0, 1)), 2);
        check.due("blocks(2)", x.blocks(2), 2);
    }

    private static void emptyAndFull(Check check) {
        check.part("collect of an empty and of a full store");
        BlockExchange x = new BlockExchange();
        check.due("collect(2) of nothing", x.collect(2), 0);
        Check.fillStore(x, 2, 64);
        check.due("pin", x.pin(2, Check.nameOf(0, 115), false, true), true);
        check.due("collect(2)", x.collect(2), 63);
        check.due("blocks(2)", x.blocks(2), 1);
        check.due("raw", x.raw(2, Check.nameOf(0, 115), 1), 115);
        check.due("pin away", x.pin(2, Check.nameOf(0, 115), false, false), true);
        Check.fillStore(x, 2, 64);
        check.due("collect(2) of 64", x.collect(2), 64);
        check.due("blocks(2)", x.blocks(2), 0);
    }

    private static void fetchKeepsUnderItsRoot(Check check) {
        check.part("a running fetch keeps what is under its root");
        BlockExchange x = new BlockExchange();
        int leaf = Check.putBlock(x, 0, 0, 1);
        int[] middle = Check.tree(1, leaf);
        int other = Check.putBlock(x, 0, 0, 2);
        int top = Check.putBlock(x, 0, Check.folder(1, Check.nameOf(middle), 2, other));
        x.fetch(0, 1, 4000);
        check.due("collect(0): its root is not there", x.collect(0), 3);
        Check.putBlock(x, 0, 0, 1);
        Check.putBlock(x, 0, 0, 2);
        Check.putBlock(x, 0, Check.folder(1, Check.nameOf(middle), 2, other));
        x.fetch(0, 1, top);
        check.due("collect(0): the leaf is below a gap", x.collect(0), 1);
        Check.putBlock(x, 0, 0, 3);
        x.pin(0, Check.nameOf(0, 3), false, true);
        check.due("collect(0): pins keep as well", x.collect(0), 0);
        check.due("blocks(0)", x.blocks(0), 3);
        x.fetch(0, 1, other);
        check.due("state(0)", x.state(0), 2);
        check.due("collect(0): a done fetch keeps nothing", x.collect(0), 2);
        check.due("blocks(0)", x.blocks(0), 1);
    }
}

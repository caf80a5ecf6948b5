/** Terms: how much there may be of everything, each limit just reached and just passed. */
public final class LimitTest {
    private final Check check;

    private LimitTest(Check check) {
        this.check = check;
    }

    public static void main(String[] args) {
        Check check = new Check();
        LimitTest test = new LimitTest(check);
        test.buffer();
        test.list();
        test.pins();
        test.pinsOfEachStore();
        test.roomForPut();
        test.roomForAdd();
        test.roomForAddOfWhatIsThere();
        test.roomForFolder();
        test.roomForGive();
        test.roomForTwoGives();
        test.roomOfEachStore();
        test.lineAtFetch();
        test.lineAtRetry();
        test.lineAtRetryOfMany();
        test.lineAtGive();
        test.lineAtWant();
        test.linksOfFile();
        test.linksOfFileBroken();
        test.shardsOnTheWay();
        check.finish();
    }

    private void buffer() {
        check.part("the buffer has at most 32 bytes");
        BlockExchange x = new BlockExchange();
        for (int round = 0; round < 3; round++) {
            int[] row = {};
            for (int i = 0; i < 32; i++) {
                check.due("type of byte " + i, x.type(100 + i), true);
                row = Check.join(row, 100 + i);
            }
            check.due("type of a 33rd byte", x.type(0), false);
            check.due("type of a 33rd byte again", x.type(255), false);
            check.due("name()", x.name(), Check.nameOf(row));
            if (round == 0) {
                x.clear();
            } else {
                int file = x.add(round, 8, 4);
                check.due("length of the file", x.length(round, file), 32);
                check.due("the last byte", x.read(round, file, 31), 131);
            }
            check.due("name() when it is empty", x.name(), 40503);
        }
    }

    private void list() {
        check.part("the list has at most 16 titles");
        BlockExchange x = new BlockExchange();
        for (int round = 0; round < 3; round++) {
            for (int i = 1; i <= 16; i++) {
                check.due("entry " + i, x.entry(10 * i, i), true);
            }
            check.due("entry of a 17th title, the least", x.entry(1, 5), false);
            check.due("entry of a 17th title, in the middle", x.entry(75, 5), false);
            check.due("entry of a 17th title, the greatest", x.entry(255, 5), false);
            for (int i = 1; i <= 16; i++) {
                check.due("entry of a title there", x.entry(10 * i, 100 + i), true);
            }
            if (round == 0) {
                x.clear();
                check.due("folder after clear()", x.folder(0), Check.nameOf(2, 0));
            } else {
                int top = x.folder(round);
                for (int i = 1; i <= 16; i++) {
                    check.due("find " + 10 * i, x.find(round, top, 10 * i), 100 + i);
                }
                check.due("find 1", x.find(round, top, 1), -1);
                check.due("find 75", x.find(round, top, 75), -1);
                check.due("find 255", x.find(round, top, 255), -1);
            }
        }
    }

    private void pins() {
        check.part("a store has at most 8 pins");
        for (int kind = 0; kind < 3; kind++) {
            BlockExchange x = new BlockExchange();
            int[] names = new int[9];
            for (int i = 0; i < 9; i++) {
                names[i] = Check.putBlock(x, 0, 0, i);
            }
            for (int i = 0; i < 8; i++) {
                int which = kind == 2 ? i / 2 : i;
                check.due("pin " + i, x.pin(0, names[which], kind == 2 ? i % 2 == 0 : kind == 1, true), true);
            }
            check.due("a ninth pin", x.pin(0, names[8], false, true), false);
            check.due("a ninth pin, deep", x.pin(0, names[8], true, true), false);
            check.due("a pin away", x.pin(0, names[0], kind > 0, false), true);
            check.due("an eighth pin again", x.pin(0, names[8], true, true), true);
            check.due("a ninth pin again", x.pin(0, names[0], kind > 0, true), false);
            check.due("collect(0)", x.collect(0), kind == 2 ? 4 : 1);
        }
    }

    private void pinsOfEachStore() {
        check.part("each store has 8 pins of its own");
        BlockExchange x = new BlockExchange();
        for (int store = 0; store < 3; store++) {
            for (int i = 0; i < 9; i++) {
                int name = Check.putBlock(x, store, 0, i);
                check.due("pin " + i + " of store " + store, x.pin(store, name, false, true), i < 8);
            }
        }
    }

    private void roomForPut() {
        check.part("a store has at most 64 blocks: put");
        BlockExchange x = new BlockExchange();
        Check.fillStore(x, 0, 63);
        Check.typeAll(x, 0, 1);
        check.due("put of a 64th", x.put(0), Check.nameOf(0, 1));
        check.due("blocks(0)", x.blocks(0), 64);
        Check.typeAll(x, 0, 2);
        check.due("put of a 65th", x.put(0), -3);
        check.due("blocks(0)", x.blocks(0), 64);
        check.due("bytes of the 65th", x.bytes(0, Check.nameOf(0, 2)), -1);
        check.due("name(): the buffer stays", x.name(), Check.nameOf(0, 2));
        x.clear();
        Check.typeAll(x, 0, 1);
        check.due("put of what is there", x.put(0), Check.nameOf(0, 1));
        check.due("name() then", x.name(), 40503);
        x.pin(0, Check.nameOf(0, 1), false, true);
        check.due("collect(0)", x.collect(0), 63);
        Check.typeAll(x, 0, 2);
        check.due("put when there is room again", x.put(0), Check.nameOf(0, 2));
    }

    private void roomForAdd() {
        check.part("a store has at most 64 blocks: add");
        for (int blocks = 0; blocks <= 4; blocks++) {
            // Three leaves and a tree: four blocks.
            BlockExchange x = new BlockExchange();
            Check.fillStore(x, 1, 64 - blocks);
            Check.typeAll(x, 1, 2, 3);
            int top = Check.nameOf(Check.tree(1, Check.nameOf(0, 1), 1, Check.nameOf(0, 2), 1, Check.nameOf(0, 3)));
            check.due("add of four for " + blocks, x.add(1, 1, 3), blocks == 4 ? top : -3);
            check.due("blocks(1)", x.blocks(1), blocks == 4 ? 64 : 64 - blocks);
            check.due("bytes of a leaf", x.bytes(1, Check.nameOf(0, 1)), blocks == 4 ? 2 : -1);
            check.due("name()", x.name(), blocks == 4 ? 40503 : Check.nameOf(1, 2, 3));
        }
        BlockExchange x = new BlockExchange();
        Check.typeAll(x, 0, 7);
        x.put(2);
        for (int i = 0; i < 32; i++) {
            x.type(100 + i);
        }
        check.due("the greatest file in a store with one block", x.add(2, 1, 2) >= 0, true);
        check.due("blocks(2)", x.blocks(2), 64);
        BlockExchange y = new BlockExchange();
        Check.putBlock(y, 2, 0, 7);
        Check.putBlock(y, 2, 0, 8);
        for (int i = 0; i < 32; i++) {
            y.type(100 + i);
        }
        check.due("the greatest file in a store with two blocks", y.add(2, 1, 2), -3);
        check.due("blocks(2)", y.blocks(2), 2);
    }

    private void roomForAddOfWhatIsThere() {
        check.part("only what is not there needs room");
        BlockExchange x = new BlockExchange();
        Check.putBlock(x, 0, 0, 1);
        Check.putBlock(x, 0, 0, 2);
        Check.fillStore(x, 0, 63);
        Check.typeAll(x, 1, 2, 1, 3);
        check.due("add of two new ones for one place", x.add(0, 1, 4), -3);
        x.clear();
        Check.typeAll(x, 1, 2, 1, 2);
        check.due("add of one new one for one place", x.add(0, 1, 4) >= 0, true);
        check.due("blocks(0)", x.blocks(0), 64);
        Check.typeAll(x, 1, 2, 1, 2);
        check.due("add of what is all there", x.add(0, 1, 4) >= 0, true);
        check.due("name()", x.name(), 40503);
        check.due("blocks(0)", x.blocks(0), 64);
        check.part("what is made twice needs room once");
        BlockExchange y = new BlockExchange();
        Check.fillStore(y, 0, 60);
        for (int i = 0; i < 32; i++) {
            y.type(9);
        }
        check.due("32 same leaves: a leaf and three trees", y.add(0, 1, 4) >= 0, true);
        check.due("blocks(0)", y.blocks(0), 64);
        BlockExchange z = new BlockExchange();
        Check.fillStore(z, 0, 61);
        for (int i = 0; i < 32; i++) {
            z.type(9);
        }
        check.due("the same for one place less", z.add(0, 1, 4), -3);
    }

    private void roomForFolder() {
        check.part("a store has at most 64 blocks: folder");
        for (int blocks = 0; blocks <= 5; blocks++) {
            // Five titles of all four ways: a shard and four folders.
            BlockExchange x = new BlockExchange();
            Check.fillStore(x, 2, 64 - blocks);
            for (int title = 1; title <= 5; title++) {
                x.entry(title, title);
            }
            int top = x.folder(2);
            check.due("folder of five for " + blocks, blocks == 5 ? top >= 0 : top == -3, true);
            check.due("blocks(2)", x.blocks(2), blocks == 5 ? 64 : 64 - blocks);
            int again = x.folder(1);
            check.due("the list", x.find(1, again, 5), blocks == 5 ? -1 : 5);
        }
        for (int blocks = 0; blocks <= 1; blocks++) {
            BlockExchange x = new BlockExchange();
            Check.fillStore(x, 2, 64 - blocks);
            x.entry(1, 1);
            int name = Check.nameOf(Check.folder(1, 1));
            check.due("folder of one for " + blocks, x.folder(2), blocks == 1 ? name : -3);
            x.entry(1, 1);
            check.due("folder of one again", x.folder(2), blocks == 1 ? name : -3);
        }
    }

    private void roomForGive() {
        check.part("a store has at most 64 blocks: a give");
        for (int blocks = 63; blocks <= 64; blocks++) {
            BlockExchange x = new BlockExchange();
            int leaf = Check.putBlock(x, 1, 0, 1);
            Check.fillStore(x, 0, blocks);
            x.fetch(0, 1, leaf);
            x.deliver(0);
            check.due("deliver(0)", x.deliver(0), 1);
            check.due("state(0)", x.state(0), blocks == 63 ? 2 : 3);
            check.due("blocks(0)", x.blocks(0), 64);
            check.due("bytes", x.bytes(0, leaf), blocks == 63 ? 2 : -1);
        }
        check.part("a full store and a give that is not for it");
        BlockExchange x = new BlockExchange();
        int leaf = Check.putBlock(x, 1, 0, 1);
        Check.fillStore(x, 0, 64);
        x.fetch(0, 1, leaf);
        x.deliver(0);
        x.harm(0, 1, 2);
        check.due("deliver(0) of a name that is not missing", x.deliver(0), 1);
        check.due("state(0)", x.state(0), 1);
        x.retry(0);
        x.deliver(0);
        x.harm(0, 0, 4);
        x.fetch(0, 1, Check.nameOf(4, 1));
        check.due("deliver(0) of what is no block", x.deliver(0), 1);
        check.due("state(0)", x.state(0), 1);
    }

    private void roomForTwoGives() {
        check.part("room for the first give alone");
        BlockExchange x = new BlockExchange();
        int leaf = Check.putBlock(x, 1, 0, 1);
        int root = Check.putBlock(x, 1, Check.tree(1, leaf, 1, 500));
        Check.fillStore(x, 0, 63);
        x.fetch(0, 1, root);
        x.deliver(0);
        x.deliver(0);
        check.due("state(0)", x.state(0), 1);
        check.due("the wants", Check.lookAtLine(x), "0 0>1 " + leaf + ", 0 0>1 500");
        x.deliver(0);
        check.due("deliver(1)", x.deliver(1), 1);
        check.due("state(0)", x.state(0), 3);
        check.due("the line: nothing is sent when it has failed", Check.lookAtLine(x), "0 0>1 500");
        check.due("bytes of the root", x.bytes(0, root), 10);
        check.due("bytes of the leaf", x.bytes(0, leaf), -1);
    }

    private void roomOfEachStore() {
        check.part("each store has room of its own");
        BlockExchange x = new BlockExchange();
        for (int store = 0; store < 3; store++) {
            Check.fillStore(x, store, 64);
        }
        for (int store = 0; store < 3; store++) {
            check.due("blocks", x.blocks(store), 64);
            x.clear();
            Check.typeAll(x, 0, 1);
            check.due("put", x.put(store), -3);
        }
    }

    /** So many wants of store 2 wait, of the names from 3000 on. */
    private static BlockExchange waitingWants(int count) {
        BlockExchange x = new BlockExchange();
        for (int i = 0; i < count; i++) {
            x.fetch(2, 1, 3000 + i);
        }
        return x;
    }

    private void lineAtFetch() {
        check.part("24 messages wait: fetch");
        for (int count = 20; count <= 24; count++) {
            BlockExchange x = waitingWants(count);
            check.due("waiting()", x.waiting(), count);
            int root = Check.putBlock(x, 0, Check.tree(1, 11, 1, 12, 1, 13));
            check.due("fetch", x.fetch(0, 1, root), 3);
            check.due("waiting()", x.waiting(), Math.min(24, count + 3));
            for (int k = 0; k < 24; k++) {
                int name = k < count ? 3000 + k : 11 + k - count;
                check.due("message " + k, x.message(k, 3), k < count + 3 ? name : -1);
            }
            check.due("message(24, 0)", x.message(24, 0), -1);
            check.due("state(0)", x.state(0), 1);
        }
    }

    private void lineAtRetry() {
        check.part("24 messages wait: retry");
        BlockExchange x = waitingWants(23);
        int leaf = Check.putBlock(x, 1, 0, 1);
        check.due("fetch", x.fetch(0, 1, leaf), 1);
        check.due("waiting()", x.waiting(), 24);
        check.due("retry(0): its want is lost", x.retry(0), 1);
        check.due("waiting()", x.waiting(), 24);
        check.due("harm: its own want is lost", x.harm(23, 0, 0), true);
        check.due("waiting()", x.waiting(), 23);
        check.due("retry(0)", x.retry(0), 1);
        check.due("message(23)", Check.lookAtMessage(x, 23), "0 0>1 " + leaf);
        x.deliver(23);
        x.deliver(23);
        check.due("state(0)", x.state(0), 2);
    }

    /** A message that is sent may be lost; it was sent, and its name is missing, all the same. */
    private void lineAtRetryOfMany() {
        check.part("24 messages wait: retry of three names");
        for (int count = 20; count <= 24; count++) {
            BlockExchange x = new BlockExchange();
            int root = Check.putBlock(x, 0, Check.tree(1, 11, 1, 12, 1, 13));
            x.fetch(0, 1, root);
            for (int i = 0; i < count - 3; i++) {
                x.fetch(2, 1, 3000 + i);
            }
            check.due("waiting()", x.waiting(), count);
            check.due("retry(0)", x.retry(0), 3);
            check.due("waiting()", x.waiting(), Math.min(24, count + 3));
            for (int k = count; k < 24; k++) {
                check.due("message " + k, x.message(k, 3), k < count + 3 ? 11 + k - count : -1);
            }
            check.due("state(0)", x.state(0), 1);
        }
    }

    private void lineAtGive() {
        check.part("24 messages wait: the wants of a give");
        for (int others = 20; others <= 23; others++) {
            BlockExchange x = waitingWants(others);
            int root = Check.putBlock(x, 1, Check.tree(1, 11, 1, 12, 1, 13));
            x.fetch(0, 1, root);
            x.deliver(others);
            check.due("deliver of the give", x.deliver(others), 1);
            check.due("waiting()", x.waiting(), Math.min(24, others + 3));
            for (int i = 0; i < 3; i++) {
                check.due("want " + i, x.message(others + i, 3), others + i < 24 ? 11 + i : -1);
            }
            check.due("bytes of the root", x.bytes(0, root), 14);
        }
    }

    private void lineAtWant() {
        check.part("24 messages wait: the answer to a want has its place");
        BlockExchange x = waitingWants(22);
        int leaf = Check.putBlock(x, 1, 0, 1);
        x.fetch(0, 1, leaf);
        x.retry(0);
        check.due("waiting()", x.waiting(), 24);
        check.due("deliver(0)", x.deliver(0), 0);
        check.due("message(23)", Check.lookAtMessage(x, 23), "2 1>2 3000");
        check.due("deliver(21)", x.deliver(21), 0);
        check.due("message(23)", Check.lookAtMessage(x, 23), "1 1>0 " + leaf);
        check.due("waiting()", x.waiting(), 24);
        check.due("deliver(23)", x.deliver(23), 1);
        check.due("waiting()", x.waiting(), 23);
        check.due("state(0)", x.state(0), 2);
    }

    private void linksOfFile() {
        check.part("a byte of a file is at most 10 links away");
        BlockExchange x = new BlockExchange();
        int two = Check.putBlock(x, 0, 0, 42, 43);
        int top = Check.putBlock(x, 0, 0, 41);
        int length = 1;
        for (int links = 1; links <= 12; links++) {
            // Bytes 2 n and 2 n + 1 are n + 1 links down, the last one so many as there are trees.
            top = Check.putBlock(x, 0, Check.tree(2, two, length, top));
            length += 2;
            for (int p = 0; p < length - 1; p++) {
                check.due("read " + p + " of " + length, x.read(0, top, p), p / 2 < 10 ? 42 + p % 2 : -2);
            }
            check.due("read " + links + " links down", x.read(0, top, length - 1), links <= 10 ? 41 : -2);
            check.due("read behind the end", x.read(0, top, length), -1);
        }
    }

    private void linksOfFileBroken() {
        check.part("the 10th link can be broken as any other");
        for (int trees = 9; trees <= 12; trees++) {
            BlockExchange x = new BlockExchange();
            int leaf = Check.putBlock(x, 0, 0, 41, 42);
            int folder = Check.putBlock(x, 0, 2, 0);
            int[] lowest = {leaf, 5000, folder, leaf};
            for (int kind = 0; kind < 4; kind++) {
                int size = kind == 3 ? 3 : 2;
                int top = lowest[kind];
                for (int i = 0; i < trees; i++) {
                    top = Check.putBlock(x, 0, Check.tree(size, top));
                }
                check.due("read, kind " + kind, x.read(0, top, 0), kind == 0 && trees <= 10 ? 41 : -2);
                check.due("read behind the end, kind " + kind, x.read(0, top, size), -1);
            }
        }
    }

    private void shardsOnTheWay() {
        check.part("a shard is less than 4 links down");
        BlockExchange x = new BlockExchange();
        int leaf = Check.putBlock(x, 0, 0, 1);
        // Title 113 goes way 1 at every shard: 37 * 113 is 85 modulo 256, that is 01 01 01 01.
        int[] tops = {Check.putBlock(x, 0, Check.folder(113, 77)), Check.putBlock(x, 0, 2, 0), leaf, 6000,
            Check.putBlock(x, 0, Check.shard(4, leaf))};
        int[] due = {77, -1, -2, -2, -1};
        for (int links = 1; links <= 6; links++) {
            for (int kind = 0; kind < tops.length; kind++) {
                tops[kind] = Check.putBlock(x, 0, Check.shard(15, tops[kind], tops[kind], tops[kind], tops[kind]));
                int shardsMost = kind == 4 ? 3 : 4;
                check.due("find " + links + " links down, kind " + kind, x.find(0, tops[kind], 113),
                        links <= shardsMost ? due[kind] : -2);
            }
        }
    }
}

import java.util.function.Supplier;

/**
 * The numbers that the calls take, promise by promise: the least and the greatest that fit, the next
 * ones outside, and the ends of int. Each number is tried on an object of its own.
 */
public final class ArgumentTest {
    private static final int LEAF = Check.nameOf(0, 10, 11, 12);
    private static final int FOLDER = Check.nameOf(Check.folder(1, LEAF, 255, 65520));
    private static final int TREE = Check.nameOf(Check.tree(3, LEAF, 1, 9999));

    private interface Call {
        long on(BlockExchange x, int number);
    }

    private final Check check;

    private ArgumentTest(Check check) {
        this.check = check;
    }

    public static void main(String[] args) {
        Check check = new Check();
        ArgumentTest test = new ArgumentTest(check);
        test.stores();
        test.bytesAndTitles();
        test.chunkAndFan();
        test.names();
        test.places();
        test.messages();
        check.finish();
    }

    private static long number(boolean answer) {
        return answer ? 1 : 0;
    }

    /** The same three blocks in each store; each store's fetch runs and misses 9999. */
    private static BlockExchange alike() {
        BlockExchange x = new BlockExchange();
        for (int store = 0; store < 3; store++) {
            Check.putBlock(x, store, 0, 10, 11, 12);
            Check.putBlock(x, store, Check.folder(1, LEAF, 255, 65520));
            Check.putBlock(x, store, Check.tree(3, LEAF, 1, 9999));
            x.fetch(store, (store + 1) % 3, TREE);
        }
        return x;
    }

    private static BlockExchange typed(int... bytes) {
        BlockExchange x = alike();
        Check.typeAll(x, bytes);
        return x;
    }

    /** Every number from least to most has the answer that is due, and all others are refused. */
    private void range(String text, Supplier<BlockExchange> make, Call call, int[] range, long due, long refused) {
        for (int number : new int[] {range[0], range[0] + 1, range[1] - 1, range[1]}) {
            if (number >= range[0] && number <= range[1]) {
                check.due(text + " with " + number, call.on(make.get(), number), due);
            }
        }
        for (int number : new int[] {range[0] - 1, range[1] + 1, -1 - range[1], Integer.MIN_VALUE, Integer.MAX_VALUE}) {
            check.due(text + " with " + number, call.on(make.get(), number), refused);
        }
    }

    private void stores() {
        check.part("a store is 0, 1 or 2");
        int[] stores = {0, 2};
        Supplier<BlockExchange> make = ArgumentTest::alike;
        range("put", () -> typed(0, 5), (x, s) -> x.put(s), stores, Check.nameOf(0, 5), -1);
        range("add", () -> typed(5), (x, s) -> x.add(s, 8, 2), stores, Check.nameOf(0, 5), -1);
        range("folder", make, (x, s) -> x.folder(s), stores, Check.nameOf(2, 0), -1);
        range("bytes", make, (x, s) -> x.bytes(s, LEAF), stores, 4, -1);
        range("raw", make, (x, s) -> x.raw(s, LEAF, 1), stores, 10, -1);
        range("length", make, (x, s) -> x.length(s, LEAF), stores, 3, -1);
        range("read", make, (x, s) -> x.read(s, TREE, 2), stores, 12, -1);
        range("read, broken", make, (x, s) -> x.read(s, TREE, 3), stores, -2, -1);
        range("find", make, (x, s) -> x.find(s, FOLDER, 1), stores, LEAF, -1);
        range("pin on", make, (x, s) -> number(x.pin(s, LEAF, true, true)), stores, 1, 0);
        range("pin off", () -> {
            BlockExchange x = alike();
            for (int store = 0; store < 3; store++) {
                x.pin(store, LEAF, false, true);
            }
            return x;
        }, (x, s) -> number(x.pin(s, LEAF, false, false)), stores, 1, 0);
        range("collect", make, (x, s) -> x.collect(s), stores, 1, -1);
        range("blocks", make, (x, s) -> x.blocks(s), stores, 3, -1);
        range("fetch", make, (x, s) -> x.fetch(s, s == 0 ? 1 : 0, LEAF), stores, 0, -1);
        range("fetch of a peer", make, (x, s) -> x.fetch(s == 0 ? 1 : 0, s, LEAF), stores, 0, -1);
        range("retry", make, (x, s) -> x.retry(s), stores, 1, -1);
        range("state", make, (x, s) -> x.state(s), stores, 1, -1);
        check.part("a peer is another store");
        for (int store = 0; store < 3; store++) {
            for (int peer = 0; peer < 3; peer++) {
                check.due("fetch(" + store + ", " + peer + ")", alike().fetch(store, peer, 5), store == peer ? -1 : 1);
            }
        }
    }

    private void bytesAndTitles() {
        check.part("a byte is 0 .. 255, a title 1 .. 255");
        int[] bytes = {0, 255};
        int[] titles = {1, 255};
        Supplier<BlockExchange> make = ArgumentTest::alike;
        range("type", make, (x, b) -> number(x.type(b)), bytes, 1, 0);
        range("name() after type", make, (x, b) -> x.type(b) ? x.name() - Check.nameOf(b) : x.name(), bytes, 0, 40503);
        range("entry", make, (x, title) -> number(x.entry(title, 7)), titles, 1, 0);
        range("find after entry", make, (x, title) -> {
            x.entry(title, 7);
            return x.find(0, x.folder(0), title);
        }, titles, 7, -1);
    }

    private void chunkAndFan() {
        check.part("chunk is 0 .. 8, fan 2 .. 4");
        int[] bytes = {1, 1, 1, 1, 1, 1, 1, 1};
        for (int chunk = -2; chunk <= 10; chunk++) {
            int name = typed(bytes).add(0, chunk, 2);
            check.due("add with chunk " + chunk, name >= 0, chunk >= 0 && chunk <= 8);
            check.due("add with chunk " + chunk, name == -1, chunk < 0 || chunk > 8);
        }
        for (int fan = -2; fan <= 8; fan++) {
            int name = typed(bytes).add(0, 2, fan);
            check.due("add with fan " + fan, name >= 0, fan >= 2 && fan <= 4);
            check.due("add with fan " + fan, name == -1, fan < 2 || fan > 4);
        }
        for (int wrong : new int[] {Integer.MIN_VALUE, Integer.MAX_VALUE}) {
            check.due("add with chunk " + wrong, typed(bytes).add(0, wrong, 2), -1);
            check.due("add with fan " + wrong, typed(bytes).add(0, 2, wrong), -1);
        }
        check.part("chunk and fan count though one leaf is made");
        check.due("add(0, 9, 2) of nothing", alike().add(0, 9, 2), -1);
        check.due("add(0, -1, 2) of nothing", alike().add(0, -1, 2), -1);
        check.due("add(0, 8, 1) of nothing", alike().add(0, 8, 1), -1);
        check.due("add(0, 8, 5) of one byte", typed(5).add(0, 8, 5), -1);
        check.due("add(0, 8, 4) of nothing", alike().add(0, 8, 4), Check.nameOf(0));
    }

    private void names() {
        check.part("a name is 0 .. 65520");
        int[] names = {0, 65520};
        Supplier<BlockExchange> make = ArgumentTest::alike;
        range("entry", make, (x, name) -> number(x.entry(9, name)), names, 1, 0);
        range("fetch", make, (x, name) -> x.fetch(0, 1, name), names, 1, -1);
        range("the want", make, (x, name) -> x.fetch(0, 1, name) < 0 ? -1 : x.message(3, 3) - name, names, 0, -1);
        int[] none = {-1, 65521, 65535, 65536, LEAF + 65521, LEAF + 65536, LEAF - 65521, Integer.MIN_VALUE,
            Integer.MAX_VALUE};
        for (int name : none) {
            check.due("bytes of " + name, alike().bytes(0, name), -1);
            check.due("raw of " + name, alike().raw(0, name, 0), -1);
            check.due("length of " + name, alike().length(0, name), -1);
            check.due("read of " + name, alike().read(0, name, 0), -1);
            check.due("find under " + name, alike().find(0, name, 1), -1);
            check.due("pin of " + name, alike().pin(0, name, true, true), false);
            check.due("pin off of " + name, alike().pin(0, name, true, false), false);
        }
        leastAndGreatest();
    }

    /** Blocks of the names 0 and 65520 are like any other. */
    private void leastAndGreatest() {
        for (int name : new int[] {0, 65520}) {
            int[] row = Check.leafNamed(name);
            BlockExchange x = new BlockExchange();
            Check.typeAll(x, row);
            check.due("name()", x.name(), name);
            check.due("put", x.put(0), name);
            check.due("bytes", x.bytes(0, name), 4);
            check.due("raw", x.raw(0, name, 3), row[3]);
            check.due("length", x.length(0, name), 3);
            check.due("read", x.read(0, name, 0), row[1]);
            check.due("find", x.find(0, name, 1), -1);
            check.due("pin", x.pin(0, name, false, true), true);
            check.due("collect", x.collect(0), 0);
            int tree = Check.putBlock(x, 0, Check.tree(3, name));
            check.due("read over a link", x.read(0, tree, 2), row[3]);
            check.due("fetch", x.fetch(1, 0, tree), 1);
            for (int kind : new int[] {0, 1, 0, 1}) {
                check.due("deliver(0)", x.deliver(0), kind);
            }
            check.due("state(1)", x.state(1), 2);
            x.fetch(0, 2, 4321);
            check.due("fetch of what is not there", x.fetch(2, 0, name == 0 ? 65520 : 0), 1);
            check.due("deliver(1)", x.deliver(1), 0);
            check.due("name of the none", x.message(1, 3), name == 0 ? 65520 : 0);
            check.due("deliver(1)", x.deliver(1), 2);
            check.due("state(2)", x.state(2), 3);
        }
    }

    private void places() {
        check.part("raw: byte i of a block");
        int[] content = {0, 10, 11, 12};
        for (int i = 0; i < 4; i++) {
            check.due("raw " + i, alike().raw(1, LEAF, i), content[i]);
        }
        range("raw", ArgumentTest::alike, (x, i) -> number(x.raw(1, LEAF, i) >= 0), new int[] {0, 3}, 1, 0);
        range("raw of the longest block", () -> {
            BlockExchange x = new BlockExchange();
            Check.putBlock(x, 0, Check.tree(1, 5, 1, 6, 1, 7, 1, 8));
            Check.putBlock(x, 0, 0, 1);
            return x;
        }, (x, i) -> number(x.raw(0, Check.nameOf(Check.tree(1, 5, 1, 6, 1, 7, 1, 8)), i) >= 0), new int[] {0, 17}, 1, 0);
        range("raw of the shortest block", () -> {
            BlockExchange x = new BlockExchange();
            Check.putBlock(x, 0, 0);
            Check.putBlock(x, 0, 0, 1);
            return x;
        }, (x, i) -> x.raw(0, Check.nameOf(0), i), new int[] {0, 0}, 0, -1);
        check.part("read: p is not below 0 and below the length");
        range("read of a leaf", ArgumentTest::alike, (x, p) -> number(x.read(1, LEAF, p) >= 0), new int[] {0, 2}, 1, 0);
        for (int p = -1; p <= 4; p++) {
            check.due("read of a leaf " + p, alike().read(1, LEAF, p), p < 0 || p > 2 ? -1 : 10 + p);
            check.due("read of a tree " + p, alike().read(1, TREE, p), p < 0 || p > 3 ? -1 : p == 3 ? -2 : 10 + p);
        }
        check.due("read of the least", alike().read(1, TREE, Integer.MIN_VALUE), -1);
        check.due("read of the most", alike().read(1, TREE, Integer.MAX_VALUE), -1);
    }

    /** A want, a give of four bytes and a none, all to or from store 0. */
    private static BlockExchange threeMessages() {
        BlockExchange x = new BlockExchange();
        Check.putBlock(x, 1, 0, 10, 11, 12);
        x.fetch(0, 1, LEAF);
        x.deliver(0);
        x.fetch(0, 1, 4321);
        x.deliver(1);
        x.retry(0);
        return x;
    }

    private void messages() {
        check.part("the k-th waiting message");
        check.due("the line", Check.lookAtLine(threeMessages()), "1 1>0 " + LEAF + ", 2 1>0 4321, 0 0>1 4321");
        int[] three = {0, 2};
        Supplier<BlockExchange> make = ArgumentTest::threeMessages;
        range("deliver", make, (x, k) -> number(x.deliver(k) >= 0), three, 1, 0);
        range("harm by 0", make, (x, k) -> number(x.harm(k, 0, 0)), three, 1, 0);
        range("harm of a byte", make, (x, k) -> number(x.harm(k, 0, 1)), new int[] {0, 0}, 1, 0);
        range("message", make, (x, k) -> number(x.message(k, 3) >= 0), three, 1, 0);
        range("what of a message", make, (x, what) -> number(x.message(0, what) >= 0), new int[] {0, 3}, 1, 0);
        int[][] due = {{1, 1, 0, LEAF}, {2, 1, 0, 4321}, {0, 0, 1, 4321}};
        for (int k = -1; k <= 3; k++) {
            for (int what = -1; what <= 4; what++) {
                boolean none = k < 0 || k > 2 || what < 0 || what > 3;
                check.due("message(" + k + ", " + what + ")", threeMessages().message(k, what), none ? -1 : due[k][what]);
            }
            check.due("deliver(" + k + ") of none", new BlockExchange().deliver(k), -1);
            check.due("harm(" + k + ") of none", new BlockExchange().harm(k, 0, 0), false);
            check.due("message(" + k + ") of none", new BlockExchange().message(k, 0), -1);
        }
        check.part("harm: byte i of a give");
        range("harm of byte i", make, (x, i) -> number(x.harm(0, i, 1)), new int[] {0, 3}, 1, 0);
        int[] row = {0, 10, 11, 12};
        int[] byNumbers = {1, 2, 128, 255, 256, 257, 511, 512, -1, -256, Integer.MIN_VALUE, Integer.MAX_VALUE};
        for (int i = 0; i < 4; i++) {
            for (int by : byNumbers) {
                BlockExchange x = threeMessages();
                int[] harmed = row.clone();
                harmed[i] ^= by & 255;
                check.due("harm(0, " + i + ", " + by + ")", x.harm(0, i, by), true);
                check.due("name after harm(0, " + i + ", " + by + ")", x.message(0, 3), Check.nameOf(harmed));
                check.due("waiting()", x.waiting(), 3);
            }
        }
        for (int i : new int[] {-1, 0, 99, Integer.MIN_VALUE, Integer.MAX_VALUE}) {
            for (int k = 0; k < 3; k++) {
                BlockExchange x = threeMessages();
                check.due("harm(" + k + ", " + i + ", 0)", x.harm(k, i, 0), true);
                check.due("waiting()", x.waiting(), 2);
            }
        }
    }
}

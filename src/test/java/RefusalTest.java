import java.util.ArrayList;
import java.util.List;
import java.util.function.Consumer;
import java.util.function.Function;
import java.util.function.ToLongFunction;

/**
 * "A call that is refused changes nothing": of two objects with the same calls behind them one makes
 * the refused call as well, and all that later calls answer must be the same for both. So it is with
 * the calls that only look.
 */
public final class RefusalTest {
    private static final int A = Check.nameOf(0, 1);
    private static final int B = Check.nameOf(0, 2);
    private static final int ALONE = Check.nameOf(0, 3);
    private static final int TREE = Check.nameOf(Check.tree(1, A, 1, B));
    private static final int FOLDER = Check.nameOf(Check.folder(1, A, 2, 7777));
    private static final int GIVEN = Check.nameOf(0, 0, 0, 7);
    private static final int[] KNOWN = {A, B, ALONE, TREE, FOLDER, GIVEN, Check.nameOf(2, 0)};
    /** The buffer that all begin with: a block that is nowhere there. */
    private static final int[] TYPED = {0, 9, 9};
    /** Leaves 0 0 0 7 and this one have one name. */
    private static final int[] TWIN = {0, 249, 34, 7};

    private final Check check;
    private final List<Function<BlockExchange, String>> probes = new ArrayList<>();

    private RefusalTest(Check check) {
        this.check = check;
        probes.add(RefusalTest::bufferProbe);
        probes.add(RefusalTest::putProbe);
        probes.add(RefusalTest::listProbe);
        probes.add(RefusalTest::listRoomProbe);
        probes.add(RefusalTest::lineProbe);
        probes.add(RefusalTest::deliverProbe);
        probes.add(RefusalTest::fetchProbe);
        for (int store = 0; store < 3; store++) {
            int s = store;
            probes.add(x -> storeProbe(x, s));
            probes.add(x -> pinProbe(x, s));
            probes.add(x -> collectProbe(x, s));
        }
    }

    public static void main(String[] args) {
        Check check = new Check();
        RefusalTest test = new RefusalTest(check);
        test.theProbesSee();
        test.types();
        test.puts();
        test.adds();
        test.entries();
        test.folders();
        test.pins();
        test.fetches();
        test.messages();
        test.looks();
        check.finish();
    }

    /** Blocks, pins, a running, a failed and a done fetch, a message of each kind, bytes and titles. */
    private static BlockExchange rich() {
        BlockExchange x = new BlockExchange();
        Check.putBlock(x, 0, 0, 1);
        Check.putBlock(x, 0, 0, 2);
        Check.putBlock(x, 0, 0, 3);
        Check.putBlock(x, 0, Check.tree(1, A, 1, B));
        Check.putBlock(x, 0, Check.folder(1, A, 2, 7777));
        Check.putBlock(x, 1, 0, 0, 0, 7);
        Check.putBlock(x, 1, 0, 1);
        Check.putBlock(x, 2, 0, 3);
        x.pin(0, TREE, true, true);
        x.pin(0, ALONE, false, true);
        x.pin(1, GIVEN, false, true);
        x.fetch(1, 0, 8888);
        x.retry(1);
        x.fetch(2, 0, A);
        x.retry(2);
        for (int i = 0; i < 4; i++) {
            x.deliver(0);
        }
        x.deliver(0);
        x.deliver(1);
        x.fetch(0, 1, FOLDER);
        for (int b : TYPED) {
            x.type(b);
        }
        x.entry(5, A);
        x.entry(3, B);
        x.entry(200, 65520);
        return x;
    }

    /** Other bytes in the buffer, the list as it is in all of them. */
    private static void retype(BlockExchange x, int... bytes) {
        x.clear();
        Check.typeAll(x, bytes);
        x.entry(5, A);
        x.entry(3, B);
        x.entry(200, 65520);
    }

    private static void fill(BlockExchange x, int store, int count) {
        Check.fillStore(x, store, count);
        retype(x, TYPED);
    }

    private void refused(String text, Consumer<BlockExchange> prepare, ToLongFunction<BlockExchange> call, long due) {
        for (int i = 0; i < probes.size(); i++) {
            BlockExchange without = rich();
            prepare.accept(without);
            BlockExchange with = rich();
            prepare.accept(with);
            check.due(text, call.applyAsLong(with), due);
            check.due("probe " + i + " after " + text, probes.get(i).apply(with), probes.get(i).apply(without));
        }
    }

    private void refused(String text, ToLongFunction<BlockExchange> call, long due) {
        refused(text, x -> { }, call, due);
    }

    private static long number(boolean answer) {
        return answer ? 1 : 0;
    }

    private static String bufferProbe(BlockExchange x) {
        StringBuilder seen = new StringBuilder().append(x.name());
        int taken = 0;
        while (taken < 40 && x.type(50 + taken)) {
            taken++;
        }
        seen.append(' ').append(taken).append(' ').append(x.name()).append(' ').append(x.add(2, 8, 4));
        return seen.append(' ').append(x.name()).append(' ').append(x.blocks(2)).toString();
    }

    private static String putProbe(BlockExchange x) {
        StringBuilder seen = new StringBuilder();
        for (int store = 0; store < 3; store++) {
            seen.append(x.put(store)).append(' ').append(x.name()).append(' ').append(x.blocks(store)).append(' ');
        }
        return seen.toString();
    }

    private static String listProbe(BlockExchange x) {
        StringBuilder seen = new StringBuilder();
        int top = x.folder(2);
        seen.append(top).append(' ').append(x.blocks(2));
        for (int title = 1; title <= 255; title++) {
            seen.append(' ').append(x.find(2, top, title));
        }
        return seen.append(' ').append(x.folder(2)).append(' ').append(x.folder(0)).toString();
    }

    private static String listRoomProbe(BlockExchange x) {
        StringBuilder seen = new StringBuilder();
        int taken = 0;
        while (taken < 20 && x.entry(30 + taken, taken)) {
            taken++;
        }
        return seen.append(taken).append(' ').append(x.folder(2)).append(' ').append(x.blocks(2)).toString();
    }

    private static String lineProbe(BlockExchange x) {
        StringBuilder seen = new StringBuilder(Check.lookAtLine(x));
        for (int k = 0; k < x.waiting(); k++) {
            int size = 0;
            while (size < 20 && x.harm(k, size, 256)) {
                size++;
            }
            seen.append(' ').append(size);
        }
        return seen.append('\n').append(Check.look(x, A, GIVEN)).toString();
    }

    private static String deliverProbe(BlockExchange x) {
        StringBuilder seen = new StringBuilder();
        for (int i = 0; i < 60 && x.waiting() > 0; i++) {
            seen.append(x.message(0, 3)).append(' ').append(x.deliver(0)).append(':');
            for (int store = 0; store < 3; store++) {
                seen.append(x.state(store)).append(x.blocks(store)).append(' ');
            }
        }
        return seen.append(Check.look(x, KNOWN)).toString();
    }

    private static String fetchProbe(BlockExchange x) {
        while (x.waiting() > 0) {
            x.harm(0, 0, 0);
        }
        StringBuilder seen = new StringBuilder();
        for (int store = 0; store < 3; store++) {
            seen.append(x.state(store)).append(' ').append(x.retry(store)).append(' ');
        }
        seen.append(Check.lookAtLine(x));
        Check.putBlock(x, 0, Check.leafNamed(7777));
        return seen.append(x.state(0)).append(x.state(1)).append(x.state(2)).toString();
    }

    private static String storeProbe(BlockExchange x, int store) {
        StringBuilder seen = new StringBuilder().append(x.blocks(store));
        for (int name : KNOWN) {
            seen.append(' ').append(x.bytes(store, name));
            for (int i = 0; i < 5; i++) {
                seen.append(' ').append(x.raw(store, name, i));
            }
        }
        for (int b = 0; b < 160; b++) {
            seen.append(' ').append(x.bytes(store, Check.nameOf(0, b)));
        }
        return seen.toString();
    }

    private static String pinProbe(BlockExchange x, int store) {
        StringBuilder seen = new StringBuilder();
        int taken = 0;
        for (int name : KNOWN) {
            taken += x.pin(store, name, true, true) ? 1 : 0;
            taken += x.pin(store, name, false, true) ? 1 : 0;
        }
        seen.append(taken);
        for (int name : KNOWN) {
            seen.append(' ').append(x.pin(store, name, true, false)).append(x.pin(store, name, false, false));
        }
        return seen.append(' ').append(x.collect(store)).toString();
    }

    private static String collectProbe(BlockExchange x, int store) {
        return x.collect(store) + " " + storeProbe(x, store) + pinProbe(x, store);
    }

    /** Calls that do change something must be seen by a probe, or this test would tell nothing. */
    private void theProbesSee() {
        check.part("the probes");
        dueSeen("nothing", x -> { }, false);
        dueSeen("type", x -> x.type(0), true);
        dueSeen("clear", x -> x.clear(), true);
        dueSeen("put", x -> x.put(1), true);
        dueSeen("add", x -> x.add(2, 1, 2), true);
        dueSeen("entry of a new title", x -> x.entry(6, 1), true);
        dueSeen("entry of an old title", x -> x.entry(5, B), true);
        dueSeen("folder", x -> x.folder(0), true);
        for (int store = 0; store < 3; store++) {
            int s = store;
            int name = store == 1 ? GIVEN : ALONE;
            dueSeen("pin " + store, x -> x.pin(s, name, true, true), true);
        }
        dueSeen("a pin away", x -> x.pin(0, ALONE, false, false), true);
        dueSeen("collect(1)", x -> x.collect(1), true);
        dueSeen("fetch of another root", x -> {
            x.fetch(0, 1, 7778);
            x.harm(x.waiting() - 1, 0, 0);
        }, true);
        dueSeen("fetch from another peer", x -> {
            x.fetch(0, 2, FOLDER);
            x.harm(x.waiting() - 1, 0, 0);
        }, true);
        dueSeen("retry", x -> x.retry(0), true);
        for (int k = 0; k < 3; k++) {
            int which = k;
            dueSeen("deliver " + k, x -> x.deliver(which), true);
            dueSeen("harm " + k, x -> x.harm(which, 0, 0), true);
        }
        dueSeen("harm of a byte", x -> x.harm(1, 1, 1), true);
    }

    private void dueSeen(String text, Consumer<BlockExchange> change, boolean due) {
        boolean seen = false;
        for (Function<BlockExchange, String> probe : probes) {
            BlockExchange changed = rich();
            change.accept(changed);
            seen |= !probe.apply(changed).equals(probe.apply(rich()));
        }
        check.due("is it seen: " + text, seen, due);
        check.due("the line of all", Check.lookAtLine(rich()),
                "2 0>1 8888, 1 0>2 " + A + ", 0 0>1 7777");
        check.due("the states of all", rich().state(0) * 100 + rich().state(1) * 10 + rich().state(2), 132);
    }

    private void types() {
        check.part("type, refused");
        int[] wrong = {-1, 256, -256, 511, Integer.MIN_VALUE, Integer.MAX_VALUE};
        for (int b : wrong) {
            refused("type(" + b + ")", x -> number(x.type(b)), 0);
        }
        refused("type of a 33rd byte", x -> retype(x, new int[32]), x -> number(x.type(7)), 0);
        refused("type of a wrong 33rd byte", x -> retype(x, new int[32]), x -> number(x.type(256)), 0);
    }

    private void puts() {
        check.part("put, refused");
        for (int store : new int[] {-1, 3, Integer.MIN_VALUE, Integer.MAX_VALUE}) {
            refused("put(" + store + ")", x -> x.put(store), -1);
        }
        refused("put of no bytes", x -> retype(x), x -> x.put(0), -1);
        refused("put of no block", x -> retype(x, 9, 9), x -> x.put(0), -1);
        refused("put of 32 bytes", x -> retype(x, new int[32]), x -> x.put(0), -1);
        refused("put at a collision", x -> retype(x, TWIN), x -> x.put(1), -2);
        refused("put without room", x -> fill(x, 1, 64), x -> x.put(1), -3);
        refused("put of no block without room", x -> {
            fill(x, 1, 64);
            retype(x, 9, 9);
        }, x -> x.put(1), -1);
        refused("put at a collision without room", x -> {
            fill(x, 1, 64);
            retype(x, TWIN);
        }, x -> x.put(1), -2);
    }

    private void adds() {
        check.part("add, refused");
        for (int wrong : new int[] {-1, 9, Integer.MIN_VALUE, Integer.MAX_VALUE}) {
            refused("add(" + wrong + ", 2, 2)", x -> x.add(wrong, 2, 2), -1);
            refused("add(0, " + wrong + ", 2)", x -> x.add(0, wrong, 2), -1);
            refused("add(0, 2, " + wrong + ")", x -> x.add(0, 2, wrong), -1);
        }
        refused("add(3, 2, 2)", x -> x.add(3, 2, 2), -1);
        refused("add(0, 2, 1)", x -> x.add(0, 2, 1), -1);
        refused("add(0, 2, 5)", x -> x.add(0, 2, 5), -1);
        refused("add that collides with a block there", x -> retype(x, 249, 34, 7, 60), x -> x.add(1, 3, 2), -2);
        refused("add, the last one collides", x -> retype(x, 60, 61, 62, 249, 34, 7), x -> x.add(1, 3, 2), -2);
        refused("add that collides with itself", x -> retype(x, 0, 0, 7, 249, 34, 7), x -> x.add(2, 3, 2), -2);
        refused("add whose tree collides", x -> {
            Check.putBlock(x, 2, Check.twinLeaf(Check.tree(1, Check.nameOf(0, 60), 1, Check.nameOf(0, 61))));
            retype(x, 60, 61);
        }, x -> x.add(2, 1, 2), -2);
        refused("add without room", x -> fill(x, 1, 64), x -> x.add(1, 1, 2), -3);
        refused("add of one block without room", x -> {
            fill(x, 2, 64);
            retype(x, 60);
        }, x -> x.add(2, 1, 2), -3);
        refused("add of three blocks for two places", x -> {
            fill(x, 2, 62);
            retype(x, 60, 61);
        }, x -> x.add(2, 1, 2), -3);
    }

    private void entries() {
        check.part("entry, refused");
        for (int title : new int[] {0, 256, -1, 261, Integer.MIN_VALUE, Integer.MAX_VALUE}) {
            refused("entry(" + title + ", 1)", x -> number(x.entry(title, 1)), 0);
        }
        for (int name : new int[] {-1, 65521, Integer.MIN_VALUE, Integer.MAX_VALUE}) {
            refused("entry(5, " + name + ")", x -> number(x.entry(5, name)), 0);
            refused("entry(6, " + name + ")", x -> number(x.entry(6, name)), 0);
        }
        Consumer<BlockExchange> sixteen = x -> {
            for (int title = 10; title < 23; title++) {
                x.entry(title, title);
            }
        };
        refused("entry of a 17th title", sixteen, x -> number(x.entry(1, 1)), 0);
        refused("entry of a 17th title in the middle", sixteen, x -> number(x.entry(100, 1)), 0);
        refused("entry of a 17th title at the end", sixteen, x -> number(x.entry(255, 1)), 0);
        refused("entry of a title there, with no name", sixteen, x -> number(x.entry(10, 65521)), 0);
    }

    private void folders() {
        check.part("folder, refused");
        for (int store : new int[] {-1, 3, Integer.MIN_VALUE, Integer.MAX_VALUE}) {
            refused("folder(" + store + ")", x -> x.folder(store), -1);
        }
        int[] row = Check.folder(3, B, 5, A, 200, 65520);
        refused("folder at a collision", x -> {
            Check.putBlock(x, 2, Check.twinLeaf(row));
            retype(x, TYPED);
        }, x -> x.folder(2), -2);
        refused("folder without room", x -> fill(x, 1, 64), x -> x.folder(1), -3);
        refused("folder at a collision without room", x -> {
            Check.putBlock(x, 1, Check.twinLeaf(row));
            fill(x, 1, 64);
        }, x -> x.folder(1), -2);
        refused("a folder of shards without room", x -> {
            fill(x, 1, 64);
            x.entry(1, 1);
            x.entry(2, 2);
        }, x -> x.folder(1), -3);
    }

    private void pins() {
        check.part("pin and collect, refused");
        for (int store : new int[] {-1, 3, Integer.MIN_VALUE, Integer.MAX_VALUE}) {
            refused("pin(" + store + ") on", x -> number(x.pin(store, A, false, true)), 0);
            refused("pin(" + store + ") off", x -> number(x.pin(store, ALONE, false, false)), 0);
            refused("collect(" + store + ")", x -> x.collect(store), -1);
        }
        refused("pin of what is not there", x -> number(x.pin(0, GIVEN, false, true)), 0);
        refused("deep pin of what is not there", x -> number(x.pin(2, TREE, true, true)), 0);
        refused("pin of name -1", x -> number(x.pin(0, -1, true, true)), 0);
        refused("pin of name 65521", x -> number(x.pin(0, 65521, true, true)), 0);
        refused("pin again", x -> number(x.pin(0, ALONE, false, true)), 0);
        refused("deep pin again", x -> number(x.pin(0, TREE, true, true)), 0);
        refused("take away what is not pinned", x -> number(x.pin(0, A, true, false)), 0);
        refused("take away a deep pin of a shallow one", x -> number(x.pin(0, ALONE, true, false)), 0);
        refused("take away a shallow pin of a deep one", x -> number(x.pin(0, TREE, false, false)), 0);
        refused("take away another store's pin", x -> number(x.pin(2, ALONE, false, false)), 0);
        refused("take away what is not there", x -> number(x.pin(0, GIVEN, false, false)), 0);
        Consumer<BlockExchange> eight = x -> {
            x.pin(0, A, true, true);
            x.pin(0, A, false, true);
            x.pin(0, B, true, true);
            x.pin(0, B, false, true);
            x.pin(0, ALONE, true, true);
            x.pin(0, TREE, false, true);
        };
        refused("a ninth pin", eight, x -> number(x.pin(0, FOLDER, false, true)), 0);
        refused("a ninth pin, deep", eight, x -> number(x.pin(0, FOLDER, true, true)), 0);
        refused("pin again, with eight", eight, x -> number(x.pin(0, B, true, true)), 0);
    }

    private void fetches() {
        check.part("fetch and retry, refused");
        for (int wrong : new int[] {-1, 3, Integer.MIN_VALUE, Integer.MAX_VALUE}) {
            refused("fetch(" + wrong + ", 0, 5)", x -> x.fetch(wrong, 0, 5), -1);
            refused("fetch(0, " + wrong + ", 5)", x -> x.fetch(0, wrong, 5), -1);
            refused("fetch twice " + wrong, x -> x.fetch(wrong, wrong, 5), -1);
            refused("retry(" + wrong + ")", x -> x.retry(wrong), -1);
        }
        for (int store = 0; store < 3; store++) {
            int s = store;
            refused("fetch from itself, " + store, x -> x.fetch(s, s, A), -1);
            for (int name : new int[] {-1, 65521, Integer.MIN_VALUE, Integer.MAX_VALUE}) {
                refused("fetch of " + name, x -> x.fetch(s, (s + 1) % 3, name), -1);
            }
        }
        refused("retry of a failed fetch", x -> x.retry(1), -1);
        refused("retry of a done fetch", x -> x.retry(2), -1);
    }

    private void messages() {
        check.part("deliver and harm, refused");
        for (int k : new int[] {-1, 3, 24, Integer.MIN_VALUE, Integer.MAX_VALUE}) {
            refused("deliver(" + k + ")", x -> x.deliver(k), -1);
            refused("harm(" + k + ", 0, 0)", x -> number(x.harm(k, 0, 0)), 0);
            refused("harm(" + k + ", 0, 1)", x -> number(x.harm(k, 0, 1)), 0);
        }
        for (int by : new int[] {1, 255, 256, -1, Integer.MIN_VALUE}) {
            refused("harm of a none by " + by, x -> number(x.harm(0, 0, by)), 0);
            refused("harm of a want by " + by, x -> number(x.harm(2, 0, by)), 0);
            for (int i : new int[] {-1, 2, 17, 18, Integer.MIN_VALUE, Integer.MAX_VALUE}) {
                refused("harm of byte " + i + " by " + by, x -> number(x.harm(1, i, by)), 0);
            }
        }
        Consumer<BlockExchange> empty = x -> {
            while (x.waiting() > 0) {
                x.harm(0, 0, 0);
            }
        };
        refused("deliver(0) of no messages", empty, x -> x.deliver(0), -1);
        refused("harm(0, 0, 0) of no messages", empty, x -> number(x.harm(0, 0, 0)), 0);
    }

    private void looks() {
        check.part("calls that only look");
        refused("name()", x -> x.name(), Check.nameOf(TYPED));
        refused("waiting()", x -> x.waiting(), 3);
        refused("blocks(0)", x -> x.blocks(0), 5);
        refused("blocks(3)", x -> x.blocks(3), -1);
        refused("state(0)", x -> x.state(0), 1);
        refused("state(3)", x -> x.state(3), -1);
        refused("bytes", x -> x.bytes(0, TREE), 10);
        refused("bytes of what is not there", x -> x.bytes(1, TREE), -1);
        refused("raw", x -> x.raw(0, TREE, 0), 1);
        refused("raw behind the end", x -> x.raw(0, TREE, 10), -1);
        refused("length", x -> x.length(0, TREE), 2);
        refused("length of a folder", x -> x.length(0, FOLDER), -1);
        refused("read", x -> x.read(0, TREE, 1), 2);
        refused("read behind the end", x -> x.read(0, TREE, 2), -1);
        refused("find", x -> x.find(0, FOLDER, 2), 7777);
        refused("find of nothing", x -> x.find(0, FOLDER, 3), -1);
        for (int what = -1; what <= 4; what++) {
            int w = what;
            refused("message", x -> x.message(2, w), what < 0 || what > 3 ? -1 : new int[] {0, 0, 1, 7777}[what]);
        }
    }
}

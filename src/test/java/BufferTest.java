/** Promises 1 to 4: a new object, type, clear, name. */
public final class BufferTest {
    public static void main(String[] args) {
        Check check = new Check();
        newObject(check);
        typing(check);
        names(check);
        clearing(check);
        check.finish();
    }

    private static void newObject(Check check) {
        check.part("promise 1");
        BlockExchange x = new BlockExchange();
        check.due("name()", x.name(), 40503);
        check.due("waiting()", x.waiting(), 0);
        check.due("message(0, 0)", x.message(0, 0), -1);
        check.due("deliver(0)", x.deliver(0), -1);
        for (int store = 0; store < 3; store++) {
            check.due("blocks", x.blocks(store), 0);
            check.due("state", x.state(store), 0);
            check.due("collect", x.collect(store), 0);
            check.due("retry", x.retry(store), -1);
            check.due("put", x.put(store), -1);
            check.due("bytes of no name", x.bytes(store, 0), -1);
        }
        check.due("folder(0) of an empty list", x.folder(0), Check.nameOf(2, 0));
        check.due("add(1, 3, 2) of an empty buffer", x.add(1, 3, 2), Check.nameOf(0));
        BlockExchange other = new BlockExchange();
        check.due("blocks(0) of another object", other.blocks(0), 0);
    }

    private static void typing(Check check) {
        check.part("promise 2");
        BlockExchange x = new BlockExchange();
        check.due("type(-1)", x.type(-1), false);
        check.due("type(256)", x.type(256), false);
        check.due("type of the least", x.type(Integer.MIN_VALUE), false);
        check.due("type of the most", x.type(Integer.MAX_VALUE), false);
        check.due("name()", x.name(), 40503);
        int[] typed = new int[0];
        for (int i = 0; i < 32; i++) {
            int b = i % 2 == 0 ? 255 - i / 2 : i / 2;
            check.due("type", x.type(b), true);
            typed = Check.join(typed, b);
            check.due("name()", x.name(), Check.nameOf(typed));
        }
        check.due("type a 33rd", x.type(0), false);
        check.due("name()", x.name(), Check.nameOf(typed));
    }

    private static void names(Check check) {
        check.part("promise 4");
        BlockExchange x = new BlockExchange();
        x.type(0);
        check.due("name() of 0", x.name(), 37888);
        x.type(1);
        x.type(2);
        x.type(3);
        check.due("name() of 0 1 2 3", x.name(), 6927);
        check.due("name() again", x.name(), 6927);
    }

    private static void clearing(Check check) {
        check.part("promise 3");
        BlockExchange x = new BlockExchange();
        int there = Check.putBlock(x, 0, 0, 5);
        x.pin(0, there, false, true);
        x.fetch(1, 0, there);
        Check.typeAll(x, 1, 2, 3);
        x.entry(7, 8);
        x.clear();
        check.due("name() after clear()", x.name(), 40503);
        check.due("folder(2) after clear()", x.folder(2), Check.nameOf(2, 0));
        check.due("blocks(0)", x.blocks(0), 1);
        check.due("waiting()", x.waiting(), 1);
        check.due("state(1)", x.state(1), 1);
        check.due("collect(0)", x.collect(0), 0);
        for (int i = 0; i < 32; i++) {
            check.due("type", x.type(i), true);
        }
        x.clear();
        check.due("type after a full buffer was cleared", x.type(9), true);
        check.due("name()", x.name(), Check.nameOf(9));
    }
}

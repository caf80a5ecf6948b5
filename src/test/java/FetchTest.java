/** Promises 17, 18 and 23, and what a delivered message does (19): fetch, retry, state, deliver. */
public final class FetchTest {
    public static void main(String[] args) {
        Check check = new Check();
        wrongNumbers(check);
        walkOrder(check);
        longestWalk(check);
        circles(check);
        wholeFetch(check);
        newlyMissing(check);
        doneByOtherCalls(check);
        nones(check);
        strangers(check);
        noRoom(check);
        newFetch(check);
        retries(check);
        check.finish();
    }

    private static String want(int from, int to, int name) {
        return "0 " + from + ">" + to + " " + name;
    }

    private static void wrongNumbers(Check check) {
        check.part("fetch, refused");
        BlockExchange x = new BlockExchange();
        int leaf = Check.putBlock(x, 0, 0, 1);
        x.fetch(1, 0, leaf);
        String seen = Check.look(x, leaf);
        int[][] wrong = {{-1, 0, 5}, {3, 0, 5}, {0, -1, 5}, {0, 3, 5}, {1, 1, 5}, {3, 3, 5}, {1, 2, -1}, {1, 2, 65521}};
        for (int[] row : wrong) {
            check.due("fetch of " + row[0] + " " + row[1] + " " + row[2], x.fetch(row[0], row[1], row[2]), -1);
        }
        check.due("what is seen", Check.look(x, leaf), seen);
        check.due("fetch of the greatest name", x.fetch(1, 2, 65520), 1);
        check.due("fetch of name 0", x.fetch(2, 1, 0), 1);
        check.due("state(-1)", x.state(-1), -1);
        check.due("state(3)", x.state(3), -1);
    }

    private static void walkOrder(Check check) {
        check.part("the order of the walk");
        BlockExchange x = new BlockExchange();
        int low = Check.putBlock(x, 0, Check.shard(12, 41, 42));
        int mid = Check.putBlock(x, 0, Check.tree(1, 31, 2, low, 3, 32));
        int leaf = Check.putBlock(x, 0, 0, 9);
        int top = Check.putBlock(x, 0, Check.folder(1, mid, 2, 31, 3, low, 4, 21));
        int root = Check.putBlock(x, 0, Check.tree(1, 21, 2, top, 3, leaf, 4, 11));
        check.due("fetch", x.fetch(0, 2, root), 6);
        check.due("the wants", Check.lookAtLine(x), String.join(", ", want(0, 2, 21), want(0, 2, 31),
                want(0, 2, 41), want(0, 2, 42), want(0, 2, 32), want(0, 2, 11)));
        check.due("state(0)", x.state(0), 1);
        check.due("fetch of a root that is not there", x.fetch(1, 2, root), 1);
        check.due("message(6)", Check.lookAtMessage(x, 6), want(1, 2, root));
        check.due("fetch of a leaf", x.fetch(0, 1, leaf), 0);
        check.due("state(0)", x.state(0), 2);
        check.due("waiting()", x.waiting(), 7);
    }

    /** As many blocks as a store has, all with four links, most of them missing. */
    private static void longestWalk(Check check) {
        check.part("a walk through a full store");
        BlockExchange x = new BlockExchange();
        // None of the folders has one of the names from 20001 on.
        int next = 20005;
        int name = Check.putFolder(x, 0, 20001, 20002, 20003, 20004);
        for (int i = 1; i < 64; i++) {
            name = Check.putFolder(x, 0, name, next, next + 1, next + 2);
            next += 3;
        }
        check.due("blocks(0)", x.blocks(0), 64);
        check.due("fetch", x.fetch(0, 1, name), 193);
        for (int k = 0; k < 24; k++) {
            check.due("message " + k, x.message(k, 3), 20001 + k);
        }
        check.due("waiting()", x.waiting(), 24);
        check.due("retry(0)", x.retry(0), 193);
        check.due("collect(0)", x.collect(0), 0);
        check.due("deliver(23): the last want", x.deliver(23), 0);
        check.due("state(0)", x.state(0), 1);
        check.due("deliver(23): none of it", x.deliver(23), 2);
        check.due("state(0)", x.state(0), 3);
        check.due("collect(0)", x.collect(0), 64);
    }

    private static void circles(Check check) {
        check.part("a walk in a circle");
        BlockExchange x = new BlockExchange();
        int self = Check.putBlock(x, 0, Check.treeOfItself(1, 17));
        check.due("fetch", x.fetch(0, 1, self), 1);
        check.due("the wants", Check.lookAtLine(x), want(0, 1, 17));
        // Two folders that link one another: a and b are found by trying the names of the second one.
        for (int b = 0; b < 65521; b++) {
            int a = Check.nameOf(Check.folder(1, b, 2, 50));
            if (Check.nameOf(Check.folder(3, a, 4, 60)) == b) {
                Check.putBlock(x, 2, Check.folder(1, b, 2, 50));
                Check.putBlock(x, 2, Check.folder(3, a, 4, 60));
                check.due("fetch of a", x.fetch(2, 1, a), 2);
                check.due("first want", x.message(1, 3), 60);
                check.due("second want", x.message(2, 3), 50);
                check.due("collect(2)", x.collect(2), 0);
                return;
            }
        }
        check.due("two folders that link one another", false, true);
    }

    private static void wholeFetch(Check check) {
        check.part("a whole fetch");
        BlockExchange x = new BlockExchange();
        int leaf = Check.putBlock(x, 2, 0, 7);
        int root = Check.putBlock(x, 2, Check.folder(1, leaf, 2, leaf));
        check.due("fetch", x.fetch(1, 2, root), 1);
        check.due("deliver(0)", x.deliver(0), 0);
        check.due("the give", Check.lookAtLine(x), "1 2>1 " + root);
        check.due("deliver(0)", x.deliver(0), 1);
        check.due("the want", Check.lookAtLine(x), want(1, 2, leaf));
        check.due("state(1)", x.state(1), 1);
        check.due("blocks(1)", x.blocks(1), 1);
        x.deliver(0);
        check.due("collect(2) does not harm the copy", x.collect(2), 2);
        check.due("deliver(0)", x.deliver(0), 1);
        check.due("state(1)", x.state(1), 2);
        check.due("find", x.find(1, root, 2), leaf);
        check.due("raw", x.raw(1, leaf, 1), 7);
        check.due("waiting()", x.waiting(), 0);
        check.due("retry(1) when done", x.retry(1), -1);
    }

    private static void newlyMissing(Check check) {
        check.part("wants for what is newly missing");
        BlockExchange x = new BlockExchange();
        int a = Check.putBlock(x, 0, Check.folder(1, 100, 2, 101));
        int b = Check.putBlock(x, 0, Check.folder(1, 101, 2, 102, 3, 100, 4, 103));
        int there = Check.putBlock(x, 1, Check.folder(9, 100));
        int root = Check.putBlock(x, 1, Check.folder(1, a, 2, b, 3, 102, 4, there));
        check.due("fetch", x.fetch(1, 0, root), 4);
        check.due("deliver(1): the want of b", x.deliver(1), 0);
        check.due("deliver(3): the give of b", x.deliver(3), 1);
        check.due("the wants: 102 and 100 were missing before", Check.lookAtLine(x),
                String.join(", ", want(1, 0, a), want(1, 0, 102), want(1, 0, 100), want(1, 0, 101), want(1, 0, 103)));
        // What a put makes missing is asked for by retry alone.
        Check.typeAll(x, Check.folder(1, 100, 2, 101));
        check.due("put of a", x.put(1), a);
        check.due("waiting()", x.waiting(), 5);
        check.due("retry(1)", x.retry(1), 4);
        check.due("message(5)", x.message(5, 3), 100);
        check.due("message(6)", x.message(6, 3), 101);
        check.due("message(7)", x.message(7, 3), 102);
        check.due("message(8)", x.message(8, 3), 103);
    }

    private static void doneByOtherCalls(Check check) {
        check.part("done by other calls");
        BlockExchange x = new BlockExchange();
        int leaf = Check.nameOf(0, 1, 2);
        x.fetch(0, 1, leaf);
        Check.typeAll(x, 0, 1, 2);
        x.put(1);
        check.due("state(0) after a put elsewhere", x.state(0), 1);
        Check.typeAll(x, 0, 1, 2);
        x.put(0);
        check.due("state(0) after put", x.state(0), 2);
        x.fetch(2, 1, leaf);
        Check.typeAll(x, 1, 2);
        x.add(2, 2, 2);
        check.due("state(2) after add", x.state(2), 2);
        x.fetch(2, 1, Check.nameOf(2, 0));
        check.due("state(2)", x.state(2), 1);
        x.folder(2);
        check.due("state(2) after folder", x.state(2), 2);
        x.collect(2);
        check.due("state(2) stays done", x.state(2), 2);

        int deep = Check.nameOf(Check.folder(1, leaf, 2, 9999));
        x.fetch(2, 1, deep);
        x.entry(1, leaf);
        x.entry(2, 9999);
        x.folder(2);
        check.due("state(2) with its root there alone", x.state(2), 1);
        check.due("retry(2)", x.retry(2), 2);
    }

    private static void nones(Check check) {
        check.part("none");
        BlockExchange x = new BlockExchange();
        int root = Check.putBlock(x, 0, Check.folder(1, 500, 2, 501));
        x.fetch(0, 1, root);
        check.due("deliver(0)", x.deliver(0), 0);
        check.due("the none", Check.lookAtMessage(x, 1), "2 1>0 500");
        check.due("deliver(0)", x.deliver(0), 0);
        check.due("deliver(0)", x.deliver(0), 2);
        check.due("state(0)", x.state(0), 3);
        check.due("deliver(0) of a late one", x.deliver(0), 2);
        check.due("state(0)", x.state(0), 3);
        check.due("retry(0)", x.retry(0), -1);

        int leaf = Check.nameOf(0, 5);
        root = Check.putBlock(x, 2, Check.folder(1, leaf, 2, 501));
        x.fetch(2, 1, root);
        x.deliver(0);
        Check.putBlock(x, 2, 0, 5);
        check.due("deliver(1) of a none for what came in", x.deliver(1), 2);
        check.due("state(2)", x.state(2), 1);
    }

    private static void strangers(Check check) {
        check.part("messages that change nothing");
        BlockExchange x = new BlockExchange();
        int leaf = Check.putBlock(x, 1, 0, 5);
        x.fetch(0, 1, leaf);
        x.fetch(0, 1, 600);
        x.deliver(0);
        x.deliver(0);
        check.due("the line", Check.lookAtLine(x), "1 1>0 " + leaf + ", 2 1>0 600");
        check.due("fetch from another peer", x.fetch(0, 2, leaf), 1);
        x.harm(2, 0, 0);
        check.due("deliver(0): a give of one that is not the peer", x.deliver(0), 1);
        check.due("blocks(0)", x.blocks(0), 0);
        check.due("fetch", x.fetch(0, 2, 600), 1);
        check.due("deliver(0): a none of one that is not the peer", x.deliver(0), 2);
        check.due("state(0)", x.state(0), 1);
        x.harm(0, 0, 0);

        x.fetch(0, 1, leaf);
        x.deliver(0);
        x.fetch(0, 1, 700);
        check.due("deliver(0): a give that is not missing", x.deliver(0), 1);
        check.due("blocks(0)", x.blocks(0), 0);
        check.due("state(0)", x.state(0), 1);
        brokenGives(check);
    }

    private static void brokenGives(Check check) {
        BlockExchange x = new BlockExchange();
        int leaf = Check.putBlock(x, 1, 0, 5);
        x.fetch(0, 1, leaf);
        x.deliver(0);
        check.due("harm", x.harm(0, 1, 1), true);
        int harmed = x.message(0, 3);
        check.due("message: the name of the harmed bytes", harmed, Check.nameOf(0, 4));
        x.fetch(0, 1, harmed);
        check.due("deliver(0): harmed bytes whose name is missing", x.deliver(0), 1);
        check.due("raw(0)", x.raw(0, harmed, 1), 4);
        check.due("state(0)", x.state(0), 2);
        check.due("raw(1): the giver's block is whole", x.raw(1, leaf, 1), 5);
        x.harm(0, 0, 0);

        x.fetch(2, 1, leaf);
        x.deliver(0);
        check.due("harm", x.harm(0, 0, 4), true);
        x.fetch(2, 1, Check.nameOf(4, 5));
        check.due("deliver(0): no block, though its name is missing", x.deliver(0), 1);
        check.due("blocks(2)", x.blocks(2), 0);
        check.due("state(2)", x.state(2), 1);
    }

    private static void noRoom(Check check) {
        check.part("a give without room");
        BlockExchange x = new BlockExchange();
        for (int i = 0; i < 64; i++) {
            Check.putBlock(x, 0, 0, i);
        }
        int leaf = Check.putBlock(x, 1, 0, 100);
        x.fetch(0, 1, leaf);
        x.deliver(0);
        check.due("deliver(0)", x.deliver(0), 1);
        check.due("state(0)", x.state(0), 3);
        check.due("blocks(0)", x.blocks(0), 64);
        check.due("waiting()", x.waiting(), 0);
        check.due("collect(0)", x.collect(0), 64);
        x.fetch(0, 1, leaf);
        x.deliver(0);
        x.deliver(0);
        check.due("state(0)", x.state(0), 2);
    }

    private static void newFetch(Check check) {
        check.part("a new fetch in place of the old one");
        BlockExchange x = new BlockExchange();
        int leaf = Check.putBlock(x, 1, 0, 5);
        int tree = Check.putBlock(x, 1, Check.tree(1, leaf));
        x.fetch(0, 1, tree);
        x.deliver(0);
        x.deliver(0);
        x.deliver(0);
        check.due("the line", Check.lookAtLine(x), "1 1>0 " + leaf);
        check.due("fetch", x.fetch(0, 1, 800), 1);
        check.due("deliver(0): a late give", x.deliver(0), 1);
        check.due("blocks(0)", x.blocks(0), 1);
        check.due("collect(0): the old root is not kept", x.collect(0), 1);
        x.deliver(0);
        x.deliver(0);
        check.due("state(0)", x.state(0), 3);
        check.due("fetch after a failed one", x.fetch(0, 1, leaf), 1);
        check.due("state(0)", x.state(0), 1);
        check.due("state(1): the peer has none", x.state(1), 0);
    }

    private static void retries(Check check) {
        check.part("promise 18");
        BlockExchange x = new BlockExchange();
        check.due("retry(-1)", x.retry(-1), -1);
        check.due("retry(3)", x.retry(3), -1);
        check.due("retry(0) without a fetch", x.retry(0), -1);
        int root = Check.putBlock(x, 0, Check.tree(1, 10, 1, 11, 1, 12, 1, 10));
        check.due("fetch", x.fetch(0, 2, root), 3);
        x.harm(1, 0, 0);
        check.due("retry(0)", x.retry(0), 3);
        check.due("the line", Check.lookAtLine(x), String.join(", ", want(0, 2, 10), want(0, 2, 12),
                want(0, 2, 10), want(0, 2, 11), want(0, 2, 12)));
        check.due("state(0)", x.state(0), 1);
        check.due("retry(2): the peer", x.retry(2), -1);
    }
}

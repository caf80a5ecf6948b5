/** Promises 17, 18 and 23, and what a delivered message does (19): fetch, retry, state, deliver. */
public final class FetchTest {
    public static void main(String[] args) {
        Check check = new Check();
        wrongNumbers(check);
        walkOrder(check);
        longestWalk(check);
        circles(check);
        wholeFetch(check);
        newlyMissing(check);
        doneByOtherCalls(check);
        nones(check);
        strangers(check);
        noRoom(check);
        newFetch(check);
        retries(check);
        walkOnce(check);
        doneAtOnce(check);
        doneByTheLastOne(check);
        notDoneByRefusedCalls(check);
        failedStays(check);
        doneStays(check);
        eachConditionOfNone(check);
        eachConditionOfGive(check);
        giveOfAnOldFetch(check);
        wantOfAnOldFetch(check);
        giveIsACopy(check);
        check.finish();
    }

    private static String want(int from, int to, int name) {
        return "0 " + from + ">" + to + " " + name;
    }

    private static void wrongNumbers(Check check) {
        check.part("fetch, refused");
        BlockExchange x = new BlockExchange();
        int leaf = Check.putBlock(x, 0, 0, 1);
        x.fetch(1, 0, leaf);
        String seen = Check.look(x, leaf);
        int[][] wrong = {{-1, 0, 5}, {3, 0, 5}, {0, -1, 5}, {0, 3, 5}, {1, 1, 5}, {3, 3, 5}, {1, 2, -1}, {1, 2, 65521}};
        for (int[] row : wrong) {
            check.due("fetch of " + row[0] + " " + row[1] + " " + row[2], x.fetch(row[0], row[1], row[2]), -1);
        }
        check.due("what is seen", Check.look(x, leaf), seen);
        check.due("fetch of the greatest name", x.fetch(1, 2, 65520), 1);
        check.due("fetch of name 0", x.fetch(2, 1, 0), 1);
        check.due("state(-1)", x.state(-1), -1);
        check.due("state(3)", x.state(3), -1);
    }

    private static void walkOrder(Check check) {
        check.part("the order of the walk");
        BlockExchange x = new BlockExchange();
        int low = Check.putBlock(x, 0, Check.shard(12, 41, 42));
        int mid = Check.putBlock(x, 0, Check.tree(1, 31, 2, low, 3, 32));
        int leaf = Check.putBlock(x, 0, 0, 9);
        int top = Check.putBlock(x, 0, Check.folder(1, mid, 2, 31, 3, low, 4, 21));
        int root = Check.putBlock(x, 0, Check.tree(1, 21, 2, top, 3, leaf, 4, 11));
        check.due("fetch", x.fetch(0, 2, root), 6);
        check.due("the wants", Check.lookAtLine(x), String.join(", ", want(0, 2, 21), want(0, 2, 31),
                want(0, 2, 41), want(0, 2, 42), want(0, 2, 32), want(0, 2, 11)));
        check.due("state(0)", x.state(0), 1);
        check.due("fetch of a root that is not there", x.fetch(1, 2, root), 1);
        check.due("message(6)", Check.lookAtMessage(x, 6), want(1, 2, root));
        check.due("fetch of a leaf", x.fetch(0, 1, leaf), 0);
        check.due("state(0)", x.state(0), 2);
        check.due("waiting()", x.waiting(), 7);
    }

    /** As many blocks as a store has, all with four links, most of them missing. */
    private static void longestWalk(Check check) {
        check.part("a walk through a full store");
        BlockExchange x = new BlockExchange();
        // None of the folders has one of the names from 20001 on.
        int next = 20005;
        int name = Check.putFolder(x, 0, 20001, 20002, 20003, 20004);
        for (int i = 1; i < 64; i++) {
            name = Check.putFolder(x, 0, name, next, next + 1, next + 2);
            next += 3;
        }
        check.due("blocks(0)", x.blocks(0), 64);
        check.due("fetch", x.fetch(0, 1, name), 193);
        for (int k = 0; k < 24; k++) {
            check.due("message " + k, x.message(k, 3), 20001 + k);
        }
        check.due("waiting()", x.waiting(), 24);
        check.due("retry(0)", x.retry(0), 193);
        check.due("collect(0)", x.collect(0), 0);
        check.due("deliver(23): the last want", x.deliver(23), 0);
        check.due("state(0)", x.state(0), 1);
        check.due("deliver(23): none of it", x.deliver(23), 2);
        check.due("state(0)", x.state(0), 3);
        check.due("collect(0)", x.collect(0), 64);
    }

    private static void circles(Check check) {
        check.part("a walk in a circle");
        BlockExchange x = new BlockExchange();
        int self = Check.putBlock(x, 0, Check.treeOfItself(1, 17));
        check.due("fetch", x.fetch(0, 1, self), 1);
        check.due("the wants", Check.lookAtLine(x), want(0, 1, 17));
        // Two folders that link one another: a and b are found by trying the names of the second one.
        for (int b = 0; b < 65521; b++) {
            int a = Check.nameOf(Check.folder(1, b, 2, 50));
            if (Check.nameOf(Check.folder(3, a, 4, 60)) == b) {
                Check.putBlock(x, 2, Check.folder(1, b, 2, 50));
                Check.putBlock(x, 2, Check.folder(3, a, 4, 60));
                check.due("fetch of a", x.fetch(2, 1, a), 2);
                check.due("first want", x.message(1, 3), 60);
                check.due("second want", x.message(2, 3), 50);
                check.due("collect(2)", x.collect(2), 0);
                return;
            }
        }
        check.due("two folders that link one another", false, true);
    }

    private static void wholeFetch(Check check) {
        check.part("a whole fetch");
        BlockExchange x = new BlockExchange();
        int leaf = Check.putBlock(x, 2, 0, 7);
        int root = Check.putBlock(x, 2, Check.folder(1, leaf, 2, leaf));
        check.due("fetch", x.fetch(1, 2, root), 1);
        check.due("deliver(0)", x.deliver(0), 0);
        check.due("the give", Check.lookAtLine(x), "1 2>1 " + root);
        check.due("deliver(0)", x.deliver(0), 1);
        check.due("the want", Check.lookAtLine(x), want(1, 2, leaf));
        check.due("state(1)", x.state(1), 1);
        check.due("blocks(1)", x.blocks(1), 1);
        x.deliver(0);
        check.due("collect(2) does not harm the copy", x.collect(2), 2);
        check.due("deliver(0)", x.deliver(0), 1);
        check.due("state(1)", x.state(1), 2);
        check.due("find", x.find(1, root, 2), leaf);
        check.due("raw", x.raw(1, leaf, 1), 7);
        check.due("waiting()", x.waiting(), 0);
        check.due("retry(1) when done", x.retry(1), -1);
    }

    private static void newlyMissing(Check check) {
        check.part("wants for what is newly missing");
        BlockExchange x = new BlockExchange();
        int a = Check.putBlock(x, 0, Check.folder(1, 100, 2, 101));
        int b = Check.putBlock(x, 0, Check.folder(1, 101, 2, 102, 3, 100, 4, 103));
        int there = Check.putBlock(x, 1, Check.folder(9, 100));
        int root = Check.putBlock(x, 1, Check.folder(1, a, 2, b, 3, 102, 4, there));
        check.due("fetch", x.fetch(1, 0, root), 4);
        check.due("deliver(1): the want of b", x.deliver(1), 0);
        check.due("deliver(3): the give of b", x.deliver(3), 1);
        check.due("the wants: 102 and 100 were missing before", Check.lookAtLine(x),
                String.join(", ", want(1, 0, a), want(1, 0, 102), want(1, 0, 100), want(1, 0, 101), want(1, 0, 103)));
        // What a put makes missing is asked for by retry alone.
        Check.typeAll(x, Check.folder(1, 100, 2, 101));
        check.due("put of a", x.put(1), a);
        check.due("waiting()", x.waiting(), 5);
        check.due("retry(1)", x.retry(1), 4);
        check.due("message(5)", x.message(5, 3), 100);
        check.due("message(6)", x.message(6, 3), 101);
        check.due("message(7)", x.message(7, 3), 102);
        check.due("message(8)", x.message(8, 3), 103);
    }

    private static void doneByOtherCalls(Check check) {
        check.part("done by other calls");
        BlockExchange x = new BlockExchange();
        int leaf = Check.nameOf(0, 1, 2);
        x.fetch(0, 1, leaf);
        Check.typeAll(x, 0, 1, 2);
        x.put(1);
        check.due("state(0) after a put elsewhere", x.state(0), 1);
        Check.typeAll(x, 0, 1, 2);
        x.put(0);
        check.due("state(0) after put", x.state(0), 2);
        x.fetch(2, 1, leaf);
        Check.typeAll(x, 1, 2);
        x.add(2, 2, 2);
        check.due("state(2) after add", x.state(2), 2);
        x.fetch(2, 1, Check.nameOf(2, 0));
        check.due("state(2)", x.state(2), 1);
        x.folder(2);
        check.due("state(2) after folder", x.state(2), 2);
        x.collect(2);
        check.due("state(2) stays done", x.state(2), 2);

        int deep = Check.nameOf(Check.folder(1, leaf, 2, 9999));
        x.fetch(2, 1, deep);
        x.entry(1, leaf);
        x.entry(2, 9999);
        x.folder(2);
        check.due("state(2) with its root there alone", x.state(2), 1);
        check.due("retry(2)", x.retry(2), 2);
    }

    private static void nones(Check check) {
        check.part("none");
        BlockExchange x = new BlockExchange();
        int root = Check.putBlock(x, 0, Check.folder(1, 500, 2, 501));
        x.fetch(0, 1, root);
        check.due("deliver(0)", x.deliver(0), 0);
        check.due("the none", Check.lookAtMessage(x, 1), "2 1>0 500");
        check.due("deliver(0)", x.deliver(0), 0);
        check.due("deliver(0)", x.deliver(0), 2);
        check.due("state(0)", x.state(0), 3);
        check.due("deliver(0) of a late one", x.deliver(0), 2);
        check.due("state(0)", x.state(0), 3);
        check.due("retry(0)", x.retry(0), -1);

        int leaf = Check.nameOf(0, 5);
        root = Check.putBlock(x, 2, Check.folder(1, leaf, 2, 501));
        x.fetch(2, 1, root);
        x.deliver(0);
        Check.putBlock(x, 2, 0, 5);
        check.due("deliver(1) of a none for what came in", x.deliver(1), 2);
        check.due("state(2)", x.state(2), 1);
    }

    private static void strangers(Check check) {
        check.part("messages that change nothing");
        BlockExchange x = new BlockExchange();
        int leaf = Check.putBlock(x, 1, 0, 5);
        x.fetch(0, 1, leaf);
        x.fetch(0, 1, 600);
        x.deliver(0);
        x.deliver(0);
        check.due("the line", Check.lookAtLine(x), "1 1>0 " + leaf + ", 2 1>0 600");
        check.due("fetch from another peer", x.fetch(0, 2, leaf), 1);
        x.harm(2, 0, 0);
        check.due("deliver(0): a give of one that is not the peer", x.deliver(0), 1);
        check.due("blocks(0)", x.blocks(0), 0);
        check.due("fetch", x.fetch(0, 2, 600), 1);
        check.due("deliver(0): a none of one that is not the peer", x.deliver(0), 2);
        check.due("state(0)", x.state(0), 1);
        x.harm(0, 0, 0);

        x.fetch(0, 1, leaf);
        x.deliver(0);
        x.fetch(0, 1, 700);
        check.due("deliver(0): a give that is not missing", x.deliver(0), 1);
        check.due("blocks(0)", x.blocks(0), 0);
        check.due("state(0)", x.state(0), 1);
        brokenGives(check);
    }

    private static void brokenGives(Check check) {
        BlockExchange x = new BlockExchange();
        int leaf = Check.putBlock(x, 1, 0, 5);
        x.fetch(0, 1, leaf);
        x.deliver(0);
        check.due("harm", x.harm(0, 1, 1), true);
        int harmed = x.message(0, 3);
        check.due("message: the name of the harmed bytes", harmed, Check.nameOf(0, 4));
        x.fetch(0, 1, harmed);
        check.due("deliver(0): harmed bytes whose name is missing", x.deliver(0), 1);
        check.due("raw(0)", x.raw(0, harmed, 1), 4);
        check.due("state(0)", x.state(0), 2);
        check.due("raw(1): the giver's block is whole", x.raw(1, leaf, 1), 5);
        x.harm(0, 0, 0);

        x.fetch(2, 1, leaf);
        x.deliver(0);
        check.due("harm", x.harm(0, 0, 4), true);
        x.fetch(2, 1, Check.nameOf(4, 5));
        check.due("deliver(0): no block, though its name is missing", x.deliver(0), 1);
        check.due("blocks(2)", x.blocks(2), 0);
        check.due("state(2)", x.state(2), 1);
    }

    private static void noRoom(Check check) {
        check.part("a give without room");
        BlockExchange x = new BlockExchange();
        for (int i = 0; i < 64; i++) {
            Check.putBlock(x, 0, 0, i);
        }
        int leaf = Check.putBlock(x, 1, 0, 100);
        x.fetch(0, 1, leaf);
        x.deliver(0);
        check.due("deliver(0)", x.deliver(0), 1);
        check.due("state(0)", x.state(0), 3);
        check.due("blocks(0)", x.blocks(0), 64);
        check.due("waiting()", x.waiting(), 0);
        check.due("collect(0)", x.collect(0), 64);
        x.fetch(0, 1, leaf);
        x.deliver(0);
        x.deliver(0);
        check.due("state(0)", x.state(0), 2);
    }

    private static void newFetch(Check check) {
        check.part("a new fetch in place of the old one");
        BlockExchange x = new BlockExchange();
        int leaf = Check.putBlock(x, 1, 0, 5);
        int tree = Check.putBlock(x, 1, Check.tree(1, leaf));
        x.fetch(0, 1, tree);
        x.deliver(0);
        x.deliver(0);
        x.deliver(0);
        check.due("the line", Check.lookAtLine(x), "1 1>0 " + leaf);
        check.due("fetch", x.fetch(0, 1, 800), 1);
        check.due("deliver(0): a late give", x.deliver(0), 1);
        check.due("blocks(0)", x.blocks(0), 1);
        check.due("collect(0): the old root is not kept", x.collect(0), 1);
        x.deliver(0);
        x.deliver(0);
        check.due("state(0)", x.state(0), 3);
        check.due("fetch after a failed one", x.fetch(0, 1, leaf), 1);
        check.due("state(0)", x.state(0), 1);
        check.due("state(1): the peer has none", x.state(1), 0);
    }

    private static void retries(Check check) {
        check.part("promise 18");
        BlockExchange x = new BlockExchange();
        check.due("retry(-1)", x.retry(-1), -1);
        check.due("retry(3)", x.retry(3), -1);
        check.due("retry(0) without a fetch", x.retry(0), -1);
        int root = Check.putBlock(x, 0, Check.tree(1, 10, 1, 11, 1, 12, 1, 10));
        check.due("fetch", x.fetch(0, 2, root), 3);
        x.harm(1, 0, 0);
        check.due("retry(0)", x.retry(0), 3);
        check.due("the line", Check.lookAtLine(x), String.join(", ", want(0, 2, 10), want(0, 2, 12),
                want(0, 2, 10), want(0, 2, 11), want(0, 2, 12)));
        check.due("state(0)", x.state(0), 1);
        check.due("retry(2): the peer", x.retry(2), -1);
    }

    private static void walkOnce(Check check) {
        check.part("each name once, where the walk comes to it first");
        BlockExchange x = new BlockExchange();
        int low = Check.putBlock(x, 0, Check.folder(1, 50, 2, 51));
        int left = Check.putBlock(x, 0, Check.tree(1, low, 1, 52));
        int right = Check.putBlock(x, 0, Check.shard(9, 52, low));
        int root = Check.putBlock(x, 0, Check.folder(1, 53, 2, left, 3, right, 4, 51));
        check.due("fetch", x.fetch(0, 1, root), 4);
        check.due("the wants", Check.lookAtLine(x),
                String.join(", ", want(0, 1, 53), want(0, 1, 50), want(0, 1, 51), want(0, 1, 52)));
        check.part("a missing root is the one name");
        check.due("fetch", x.fetch(1, 0, 4000), 1);
        check.due("the want", Check.lookAtMessage(x, 4), want(1, 0, 4000));
        check.part("one name four times");
        int same = Check.putBlock(x, 2, Check.tree(1, 60, 1, 60, 1, 60, 1, 60));
        check.due("fetch", x.fetch(2, 0, same), 1);
        check.due("waiting()", x.waiting(), 6);
    }

    private static void doneAtOnce(Check check) {
        check.part("a fetch of what is there is done");
        BlockExchange x = new BlockExchange();
        int leaf = Check.putBlock(x, 0, 0, 1);
        int tree = Check.putBlock(x, 0, Check.tree(1, leaf, 1, leaf));
        int broken = Check.putBlock(x, 0, Check.tree(9, tree));
        int[] all = {leaf, tree, broken, Check.putBlock(x, 0, 2, 0)};
        for (int root : all) {
            check.due("fetch", x.fetch(0, 1, root), 0);
            check.due("state(0)", x.state(0), 2);
            check.due("retry(0)", x.retry(0), -1);
        }
        check.due("waiting()", x.waiting(), 0);
        check.due("fetch of what misses", x.fetch(0, 1, 4000), 1);
        check.due("state(0)", x.state(0), 1);
        check.due("fetch of what is there", x.fetch(0, 1, leaf), 0);
        check.due("state(0)", x.state(0), 2);
    }

    /** Two names are missing: one call brings the first in, another one the second. */
    private static void doneByTheLastOne(Check check) {
        check.part("done when the last one is in");
        int leaf = Check.nameOf(0, 1, 2);
        int empty = Check.nameOf(2, 0);
        for (int turn = 0; turn < 6; turn++) {
            BlockExchange x = new BlockExchange();
            int root = Check.putBlock(x, 0, Check.tree(2, leaf, 1, empty));
            check.due("fetch", x.fetch(0, 1, root), 2);
            bringIn(x, turn % 3, turn < 3 ? leaf : empty);
            check.due("state(0) with one of two", x.state(0), 1);
            check.due("retry(0)", x.retry(0), 1);
            bringIn(x, turn % 3, turn < 3 ? empty : leaf);
            check.due("state(0) with both", x.state(0), 2);
            check.due("retry(0)", x.retry(0), -1);
        }
    }

    private static void bringIn(BlockExchange x, int way, int name) {
        boolean isLeaf = name == Check.nameOf(0, 1, 2);
        if (way == 2) {
            Check.putBlock(x, 1, isLeaf ? new int[] {0, 1, 2} : new int[] {2, 0});
            x.retry(0);
            int last = x.waiting() - 1;
            while (last > 0 && x.message(last, 3) != name) {
                last--;
            }
            x.deliver(last);
            x.deliver(x.waiting() - 1);
        } else if (isLeaf && way == 1) {
            Check.typeAll(x, 1, 2);
            x.add(0, 8, 2);
        } else if (isLeaf) {
            Check.putBlock(x, 0, 0, 1, 2);
        } else if (way == 1) {
            x.folder(0);
        } else {
            Check.putBlock(x, 0, 2, 0);
        }
    }

    private static void notDoneByRefusedCalls(Check check) {
        check.part("not done by a refused call");
        BlockExchange x = new BlockExchange();
        Check.fillStore(x, 0, 64);
        int leaf = Check.nameOf(0, 1);
        x.fetch(0, 1, leaf);
        Check.typeAll(x, 0, 1);
        check.due("put", x.put(0), -3);
        check.due("state(0)", x.state(0), 1);
        x.clear();
        Check.typeAll(x, 1);
        check.due("add", x.add(0, 8, 2), -3);
        check.due("state(0)", x.state(0), 1);
        x.fetch(0, 1, Check.nameOf(2, 0));
        check.due("folder", x.folder(0), -3);
        check.due("state(0)", x.state(0), 1);
    }

    private static void failedStays(Check check) {
        check.part("failed stays so until the next fetch");
        BlockExchange x = new BlockExchange();
        int leaf = Check.nameOf(0, 1);
        int root = Check.putBlock(x, 0, Check.tree(1, leaf));
        x.fetch(0, 1, root);
        x.retry(0);
        x.deliver(0);
        Check.putBlock(x, 1, 0, 1);
        x.deliver(0);
        check.due("the line", Check.lookAtLine(x), "2 1>0 " + leaf + ", 1 1>0 " + leaf);
        x.deliver(0);
        check.due("state(0)", x.state(0), 3);
        check.due("deliver(0) of a give", x.deliver(0), 1);
        check.due("blocks(0): nothing came in", x.blocks(0), 1);
        check.due("state(0)", x.state(0), 3);
        Check.putBlock(x, 0, 0, 1);
        check.due("state(0), nothing is missing", x.state(0), 3);
        check.due("retry(0)", x.retry(0), -1);
        check.due("fetch, refused", x.fetch(0, 0, root), -1);
        check.due("state(0)", x.state(0), 3);
        check.due("fetch", x.fetch(0, 1, root), 0);
        check.due("state(0)", x.state(0), 2);
    }

    private static void doneStays(Check check) {
        check.part("done stays so until the next fetch");
        BlockExchange x = new BlockExchange();
        int leaf = Check.putBlock(x, 0, 0, 1);
        int root = Check.putBlock(x, 0, Check.tree(1, leaf));
        x.fetch(0, 1, root);
        check.due("collect(0)", x.collect(0), 2);
        check.due("state(0), all is missing", x.state(0), 2);
        check.due("retry(0)", x.retry(0), -1);
        Check.putBlock(x, 0, Check.tree(1, leaf));
        check.due("state(0) after put of the root", x.state(0), 2);
        check.due("retry(0)", x.retry(0), -1);
        check.due("fetch", x.fetch(0, 1, root), 1);
        check.due("state(0)", x.state(0), 1);
        check.due("state(1)", x.state(1), 0);
        check.due("state(2)", x.state(2), 0);
    }

    /** A NONE of 4000 from store 1 to store 0 waits; store 0's fetch runs and misses 4000. */
    private static BlockExchange waitingNone() {
        BlockExchange x = new BlockExchange();
        x.fetch(0, 1, 4000);
        x.deliver(0);
        return x;
    }

    private static void eachConditionOfNone(Check check) {
        check.part("a none: running, its peer, missing");
        BlockExchange x = waitingNone();
        check.due("deliver(0)", x.deliver(0), 2);
        check.due("state(0): failed", x.state(0), 3);

        x = waitingNone();
        Check.putBlock(x, 0, Check.leafNamed(4000));
        check.due("state(0)", x.state(0), 2);
        check.due("deliver(0) when it is done", x.deliver(0), 2);
        check.due("state(0)", x.state(0), 2);

        x = waitingNone();
        x.fetch(0, 2, 4000);
        check.due("deliver(0) when another one is the peer", x.deliver(0), 2);
        check.due("state(0)", x.state(0), 1);

        x = waitingNone();
        x.fetch(0, 1, 4001);
        check.due("deliver(0) when the name is not missing", x.deliver(0), 2);
        check.due("state(0)", x.state(0), 1);

        x = waitingNone();
        int root = Check.putBlock(x, 0, Check.tree(1, 4000, 1, 4001));
        x.fetch(0, 1, root);
        Check.putBlock(x, 0, Check.leafNamed(4000));
        check.due("deliver(0) when the block is there", x.deliver(0), 2);
        check.due("state(0)", x.state(0), 1);

        x = waitingNone();
        x.fetch(0, 1, Check.putBlock(x, 0, Check.tree(1, 4001, 1, 4000)));
        check.due("deliver(0) when it is missing for a new fetch", x.deliver(0), 2);
        check.due("state(0)", x.state(0), 3);

        x = waitingNone();
        x.fetch(1, 0, 4000);
        x.fetch(2, 1, 4000);
        check.due("deliver(0): it is for its receiver alone", x.deliver(0), 2);
        check.due("states", x.state(0) * 100 + x.state(1) * 10 + x.state(2), 311);
    }

    /** A GIVE of the leaf 0 1 from store 1 to store 0 waits; store 0's fetch runs and misses it. */
    private static BlockExchange waitingGive() {
        BlockExchange x = new BlockExchange();
        x.fetch(0, 1, Check.putBlock(x, 1, 0, 1));
        x.deliver(0);
        return x;
    }

    private static void eachConditionOfGive(Check check) {
        check.part("a give: running, its peer, a block, missing");
        int leaf = Check.nameOf(0, 1);
        BlockExchange x = waitingGive();
        check.due("deliver(0)", x.deliver(0), 1);
        dueAfterGive(check, x, 1, 2);

        x = waitingGive();
        x.fetch(0, 1, Check.putBlock(x, 0, 0, 5));
        check.due("deliver(0) when it is done", x.deliver(0), 1);
        dueAfterGive(check, x, 1, 2);
        check.due("bytes", x.bytes(0, leaf), -1);

        x = waitingGive();
        x.fetch(0, 2, leaf);
        check.due("deliver(0) when another one is the peer", x.deliver(0), 1);
        dueAfterGive(check, x, 0, 1);

        x = waitingGive();
        x.harm(0, 0, 8);
        x.fetch(0, 1, Check.nameOf(8, 1));
        check.due("deliver(0) when it is no block", x.deliver(0), 1);
        dueAfterGive(check, x, 0, 1);

        x = waitingGive();
        x.fetch(0, 1, 4001);
        check.due("deliver(0) when the name is not missing", x.deliver(0), 1);
        dueAfterGive(check, x, 0, 1);

        x = waitingGive();
        x.harm(0, 1, 8);
        check.due("deliver(0) when the bytes have another name", x.deliver(0), 1);
        dueAfterGive(check, x, 0, 1);

        x = waitingGive();
        Check.putBlock(x, 0, 0, 1);
        x.fetch(0, 1, Check.putBlock(x, 0, Check.tree(1, leaf, 1, 4001)));
        check.due("deliver(0) when the block is there", x.deliver(0), 1);
        dueAfterGive(check, x, 2, 1);

        x = waitingGive();
        x.fetch(2, 1, leaf);
        check.due("deliver(0): it is for its receiver alone", x.deliver(0), 1);
        check.due("blocks(2)", x.blocks(2), 0);
        check.due("state(2)", x.state(2), 1);
    }

    private static void dueAfterGive(Check check, BlockExchange x, int blocks, int state) {
        check.due("blocks(0)", x.blocks(0), blocks);
        check.due("state(0)", x.state(0), state);
        check.due("blocks(1)", x.blocks(1), 1);
    }

    private static void giveOfAnOldFetch(Check check) {
        check.part("a give of an old fetch serves the new one");
        BlockExchange x = waitingGive();
        int leaf = Check.nameOf(0, 1);
        x.fetch(0, 1, Check.putBlock(x, 0, Check.folder(1, 4001, 2, leaf)));
        check.due("deliver(0)", x.deliver(0), 1);
        dueAfterGive(check, x, 2, 1);
        check.due("retry(0)", x.retry(0), 1);
    }

    private static void wantOfAnOldFetch(Check check) {
        check.part("a want is answered whatever has become of its fetch");
        BlockExchange x = new BlockExchange();
        int leaf = Check.putBlock(x, 1, 0, 1);
        x.fetch(0, 1, leaf);
        x.fetch(0, 1, 4001);
        x.fetch(0, 2, Check.putBlock(x, 0, 2, 0));
        check.due("state(0)", x.state(0), 2);
        check.due("deliver(0)", x.deliver(0), 0);
        check.due("deliver(0)", x.deliver(0), 0);
        check.due("the answers", Check.lookAtLine(x), "1 1>0 " + leaf + ", 2 1>0 4001");
        check.part("the peer's answer is of the time when the want comes");
        x.fetch(2, 1, Check.nameOf(0, 9));
        Check.putBlock(x, 1, 0, 9);
        x.deliver(2);
        check.due("a give", Check.lookAtMessage(x, 2), "1 1>2 " + Check.nameOf(0, 9));
        x.retry(2);
        x.collect(1);
        x.deliver(3);
        check.due("a none", Check.lookAtMessage(x, 3), "2 1>2 " + Check.nameOf(0, 9));
    }

    private static void giveIsACopy(Check check) {
        check.part("a give is a copy");
        BlockExchange x = new BlockExchange();
        int leaf = Check.putBlock(x, 1, 0, 1, 2);
        x.fetch(0, 1, leaf);
        x.retry(0);
        x.deliver(0);
        x.deliver(0);
        check.due("harm of the first", x.harm(0, 2, 255), true);
        check.due("message(0)", x.message(0, 3), Check.nameOf(0, 1, 253));
        check.due("message(1)", x.message(1, 3), leaf);
        check.due("raw(1)", x.raw(1, leaf, 2), 2);
        x.collect(1);
        check.due("message(1) when the block is gone", x.message(1, 3), leaf);
        check.due("deliver(1)", x.deliver(1), 1);
        check.due("raw(0)", x.raw(0, leaf, 2), 2);
        x.fetch(0, 1, Check.nameOf(0, 1, 253));
        check.due("deliver(0)", x.deliver(0), 1);
        check.due("raw(0) of the harmed one", x.raw(0, Check.nameOf(0, 1, 253), 2), 253);
        check.due("raw(0) of the whole one", x.raw(0, leaf, 2), 2);
    }
}

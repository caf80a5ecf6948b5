/** Promises 19 to 22: deliver, harm, message, waiting. */
public final class LineTest {
    public static void main(String[] args) {
        Check check = new Check();
        noMessage(check);
        order(check);
        views(check);
        harms(check);
        harmOfEveryByte(check);
        harmThatTheNameHides(check);
        room(check);
        takenFromAFullLine(check);
        check.finish();
    }

    private static void noMessage(Check check) {
        check.part("no such message");
        BlockExchange x = new BlockExchange();
        x.fetch(0, 1, 5);
        String seen = Check.look(x);
        int[] wrong = {-1, 1, 24, Integer.MIN_VALUE, Integer.MAX_VALUE};
        for (int k : wrong) {
            check.due("deliver(" + k + ")", x.deliver(k), -1);
            check.due("harm(" + k + ", 0, 0)", x.harm(k, 0, 0), false);
            check.due("harm(" + k + ", 0, 1)", x.harm(k, 0, 1), false);
            check.due("message(" + k + ", 0)", x.message(k, 0), -1);
        }
        check.due("what is seen", Check.look(x), seen);
    }

    private static void order(Check check) {
        check.part("deliver in any order");
        BlockExchange x = new BlockExchange();
        int leaf = Check.putBlock(x, 1, 0, 5);
        x.fetch(0, 1, 10);
        x.fetch(2, 1, leaf);
        x.fetch(0, 2, 12);
        check.due("waiting()", x.waiting(), 3);
        check.due("deliver(1)", x.deliver(1), 0);
        check.due("the line", Check.lookAtLine(x), "0 0>1 10, 0 0>2 12, 1 1>2 " + leaf);
        check.due("deliver(1)", x.deliver(1), 0);
        check.due("the line", Check.lookAtLine(x), "0 0>1 10, 1 1>2 " + leaf + ", 2 2>0 12");
        check.due("deliver(2)", x.deliver(2), 2);
        check.due("state(0)", x.state(0), 3);
        check.due("deliver(1)", x.deliver(1), 1);
        check.due("state(2)", x.state(2), 2);
        check.due("deliver(0): a want of a failed fetch", x.deliver(0), 0);
        check.due("the line", Check.lookAtLine(x), "2 1>0 10");
        check.due("waiting()", x.waiting(), 1);
    }

    private static void views(Check check) {
        check.part("message");
        BlockExchange x = new BlockExchange();
        x.fetch(2, 0, 65520);
        check.due("kind", x.message(0, 0), 0);
        check.due("sender", x.message(0, 1), 2);
        check.due("receiver", x.message(0, 2), 0);
        check.due("name", x.message(0, 3), 65520);
        check.due("message(0, 4)", x.message(0, 4), -1);
        check.due("message(0, -1)", x.message(0, -1), -1);
        check.due("waiting(): looking changes nothing", x.waiting(), 1);
    }

    private static void harms(Check check) {
        check.part("harm");
        BlockExchange x = new BlockExchange();
        int leaf = Check.putBlock(x, 1, 0, 170, 5);
        x.fetch(0, 1, leaf);
        check.due("harm of a want", x.harm(0, 0, 1), false);
        check.due("harm of a want, eight bits 0", x.harm(0, 0, 256), false);
        x.deliver(0);
        String seen = Check.look(x, leaf);
        check.due("harm of byte -1", x.harm(0, -1, 1), false);
        check.due("harm of byte 3", x.harm(0, 3, 1), false);
        check.due("what is seen", Check.look(x, leaf), seen);
        check.due("harm by 256", x.harm(0, 1, 256), true);
        check.due("what is seen", Check.look(x, leaf), seen);
        check.due("harm by 255", x.harm(0, 1, 255), true);
        check.due("message", x.message(0, 3), Check.nameOf(0, 85, 5));
        check.due("harm by -1", x.harm(0, 1, -1), true);
        check.due("message", x.message(0, 3), leaf);
        check.due("harm by 257", x.harm(0, 2, 257), true);
        check.due("message", x.message(0, 3), Check.nameOf(0, 170, 4));
        check.due("message: still a give", x.message(0, 0), 1);
        check.due("harm it back", x.harm(0, 2, 1), true);
        check.due("deliver(0)", x.deliver(0), 1);
        check.due("state(0)", x.state(0), 2);

        x.fetch(2, 0, 9);
        x.deliver(0);
        check.due("harm of a none", x.harm(0, 0, 1), false);
        x.fetch(1, 0, 10);
        x.fetch(1, 0, 11);
        check.due("a none is lost, whatever i", x.harm(0, -7, 0), true);
        check.due("the line", Check.lookAtLine(x), "0 1>0 10, 0 1>0 11");
        check.due("a want is lost", x.harm(1, 99, 0), true);
        check.due("the line", Check.lookAtLine(x), "0 1>0 10");
        check.due("state(2): it runs on", x.state(2), 1);
    }

    private static void room(Check check) {
        check.part("24 messages");
        BlockExchange x = new BlockExchange();
        int root = Check.putBlock(x, 0, Check.tree(1, 10, 1, 11, 1, 12, 1, 13));
        int leaf = Check.putBlock(x, 1, 0, 5);
        x.fetch(2, 1, leaf);
        check.due("fetch", x.fetch(0, 1, root), 4);
        for (int i = 0; i < 4; i++) {
            check.due("retry(0)", x.retry(0), 4);
        }
        check.due("waiting()", x.waiting(), 21);
        check.due("retry(0): the last is lost", x.retry(0), 4);
        check.due("waiting()", x.waiting(), 24);
        check.due("message(23)", x.message(23, 3), 12);
        check.due("retry(0): all are lost", x.retry(0), 4);
        check.due("fetch: its want is lost", x.fetch(1, 2, 99), 1);
        check.due("state(1)", x.state(1), 1);
        check.due("waiting()", x.waiting(), 24);
        check.due("message(23)", x.message(23, 3), 12);
        check.due("deliver(0): its place is free for the answer", x.deliver(0), 0);
        check.due("waiting()", x.waiting(), 24);
        check.due("message(23)", Check.lookAtMessage(x, 23), "1 1>2 " + leaf);
        check.due("deliver(0)", x.deliver(0), 0);
        check.due("message(23)", Check.lookAtMessage(x, 23), "2 1>0 10");
        check.due("message(22)", Check.lookAtMessage(x, 22), "1 1>2 " + leaf);
        fullLineAndGive(check);
    }

    private static void fullLineAndGive(Check check) {
        BlockExchange x = new BlockExchange();
        int root = Check.putBlock(x, 1, Check.tree(1, 10, 1, 11, 1, 12));
        x.fetch(0, 1, root);
        x.deliver(0);
        for (int i = 0; i < 30; i++) {
            x.retry(0);
        }
        check.due("waiting()", x.waiting(), 24);
        check.due("deliver(0): one want of three has room", x.deliver(0), 1);
        check.due("waiting()", x.waiting(), 24);
        check.due("message(23)", Check.lookAtMessage(x, 23), "0 0>1 10");
        check.due("retry(0)", x.retry(0), 3);
    }

    /** The longest block and the shortest one, each byte there is and the next ones outside. */
    private static void harmOfEveryByte(Check check) {
        check.part("harm of each byte of a give");
        int[][] rows = {{0}, {2, 0}, Check.tree(1, 5, 2, 6, 3, 7, 4, 8), {0, 1, 2, 3, 4, 5, 6, 7, 8}};
        for (int[] row : rows) {
            BlockExchange x = new BlockExchange();
            x.fetch(0, 2, Check.putBlock(x, 2, row));
            x.deliver(0);
            int[] harmed = row.clone();
            for (int i = -1; i <= row.length; i++) {
                boolean there = i >= 0 && i < row.length;
                check.due("harm of byte " + i + " of " + row.length, x.harm(0, i, 129), there);
                if (there) {
                    harmed[i] ^= 129;
                }
                check.due("name of the bytes", x.message(0, 3), Check.nameOf(harmed));
            }
            for (int i = 0; i < row.length; i++) {
                x.harm(0, i, 129);
            }
            check.due("name when all is mended", x.message(0, 3), Check.nameOf(row));
            check.due("deliver(0)", x.deliver(0), 1);
            check.due("bytes(0)", x.bytes(0, Check.nameOf(row)), row.length);
        }
    }

    private static void harmThatTheNameHides(Check check) {
        check.part("damaged bytes of the same name");
        BlockExchange x = new BlockExchange();
        int name = Check.putBlock(x, 1, 0, 0, 0, 7);
        x.fetch(0, 1, name);
        x.deliver(0);
        x.harm(0, 1, 249);
        check.due("message", x.message(0, 3), Check.nameOf(0, 249, 0, 7));
        x.harm(0, 2, 34);
        check.due("message", x.message(0, 3), name);
        check.due("deliver(0)", x.deliver(0), 1);
        check.due("state(0)", x.state(0), 2);
        check.due("raw(0, 1)", x.raw(0, name, 1), 249);
        check.due("raw(0, 2)", x.raw(0, name, 2), 34);
        check.due("raw(1, 1)", x.raw(1, name, 1), 0);
    }

    private static void takenFromAFullLine(Check check) {
        check.part("taken from each place of a full line");
        for (int k = 0; k < 24; k++) {
            for (int turn = 0; turn < 2; turn++) {
                BlockExchange x = new BlockExchange();
                for (int i = 0; i < 24; i++) {
                    x.fetch(i % 2, 2, 3000 + i);
                }
                if (turn == 0) {
                    check.due("deliver(" + k + ")", x.deliver(k), 0);
                } else {
                    check.due("harm(" + k + ", 0, 0)", x.harm(k, 0, 0), true);
                }
                check.due("waiting()", x.waiting(), 24 - turn);
                for (int at = 0; at < 23; at++) {
                    int i = at < k ? at : at + 1;
                    check.due("message " + at, Check.lookAtMessage(x, at), "0 " + i % 2 + ">2 " + (3000 + i));
                }
                check.due("message 23", Check.lookAtMessage(x, 23),
                        turn == 1 ? "-1 -1>-1 -1" : "2 2>" + k % 2 + " " + (3000 + k));
            }
        }
    }
}

import java.util.ArrayList;
import java.util.List;

/** Promise 6: add. */
public final class AddTest {
    public static void main(String[] args) {
        Check check = new Check();
        chunks(check);
        everySize(check);
        cutsByContent(check);
        cutsAtTheEnds(check);
        levels(check);
        sameBlocks(check);
        nameZero(check);
        wrongNumbers(check);
        collisions(check);
        leafAndTreeCollide(check);
        sameNameSameBytes(check);
        listStays(check);
        room(check);
        check.finish();
    }

    private static void dueBlock(Check check, BlockExchange x, int store, int... row) {
        int name = Check.nameOf(row);
        check.due("bytes of a made block", x.bytes(store, name), row.length);
        for (int i = 0; i < row.length; i++) {
            check.due("raw " + i + " of a made block", x.raw(store, name, i), row[i]);
        }
    }

    private static void chunks(Check check) {
        check.part("pieces of chunk bytes");
        BlockExchange x = new BlockExchange();
        check.due("add of nothing", x.add(0, 8, 2), Check.nameOf(0));
        dueBlock(check, x, 0, 0);
        Check.typeAll(x, 9, 8, 7);
        check.due("add of one piece", x.add(1, 3, 2), Check.nameOf(0, 9, 8, 7));
        check.due("blocks(1)", x.blocks(1), 1);
        check.due("name() after it", x.name(), 40503);
        Check.typeAll(x, 9, 8, 7);
        int[] tree = Check.tree(2, Check.nameOf(0, 9, 8), 1, Check.nameOf(0, 7));
        check.due("add of two pieces", x.add(2, 2, 4), Check.nameOf(tree));
        dueBlock(check, x, 2, tree);
        dueBlock(check, x, 2, 0, 9, 8);
        dueBlock(check, x, 2, 0, 7);
        check.due("blocks(2)", x.blocks(2), 3);
    }

    /** Each count of bytes with each chunk and fan: the file's blocks are made here a second time. */
    private static void everySize(Check check) {
        check.part("every size, chunk and fan");
        for (int size = 0; size <= 32; size++) {
            for (int chunk = 1; chunk <= 8; chunk++) {
                for (int fan = 2; fan <= 4; fan++) {
                    dueFile(check, size, chunk, fan);
                }
            }
        }
    }

    private static void dueFile(Check check, int size, int chunk, int fan) {
        String text = size + " bytes by " + chunk + " and " + fan;
        BlockExchange x = new BlockExchange();
        List<int[]> names = new ArrayList<>();
        int blocks = 0;
        for (int from = 0; from < size || from == 0; from += chunk) {
            int[] row = {0};
            for (int i = from; i < size && i < from + chunk; i++) {
                x.type(50 + i);
                row = Check.join(row, 50 + i);
            }
            names.add(new int[] {row.length - 1, Check.nameOf(row)});
            blocks++;
        }
        while (names.size() > 1) {
            List<int[]> trees = new ArrayList<>();
            for (int from = 0; from < names.size(); from += fan) {
                int[] parts = {};
                int sum = 0;
                for (int[] each : names.subList(from, Math.min(names.size(), from + fan))) {
                    parts = Check.join(parts, each);
                    sum += each[0];
                }
                trees.add(new int[] {sum, Check.nameOf(Check.tree(parts))});
                blocks++;
            }
            names = trees;
        }
        int top = names.get(0)[1];
        check.due("add of " + text, x.add(1, chunk, fan), top);
        check.due("blocks of " + text, x.blocks(1), blocks);
        check.due("length of " + text, x.length(1, top), size);
        for (int p = 0; p < size; p++) {
            check.due("read " + p + " of " + text, x.read(1, top, p), 50 + p);
        }
        check.due("read behind the end of " + text, x.read(1, top, size), -1);
        check.due("name() after add of " + text, x.name(), 40503);
    }

    private static void cutsByContent(Check check) {
        check.part("cuts by content");
        // 1 + 3 * 3 is divisible by 5; the byte before a piece does not count for its first byte.
        dueCuts(check, new int[] {3, 1, 3, 1, 1}, 2, 2, 1);
        dueCuts(check, new int[] {1, 1, 1, 1, 1, 1, 1, 1, 1, 1}, 8, 2);
        dueCuts(check, new int[] {1, 1, 1, 1, 1, 1, 1, 1}, 8);
        dueCuts(check, new int[] {0, 0, 0}, 2, 1);
        dueCuts(check, new int[] {5}, 1);
        dueCuts(check, new int[] {1, 2}, 2);
        dueCuts(check, new int[] {1, 1, 1, 1, 1, 1, 1, 2, 1}, 8, 1);
        dueCuts(check, new int[] {1, 1, 1, 1, 1, 1, 2, 1}, 7, 1);
        dueCuts(check, new int[] {255, 255, 254, 255, 254, 253, 7}, 2, 4, 1);
    }

    private static void cutsAtTheEnds(Check check) {
        check.part("cuts at the ends of pieces");
        // Not behind the first byte of a piece, though 1 + 3 * 3 is divisible by 5 over the cut before it.
        dueCuts(check, new int[] {1, 1, 1, 1, 1, 1, 1, 3, 1, 1}, 8, 2);
        dueCuts(check, new int[] {4, 3, 1, 1}, 2, 2);
        // Behind the second byte at the earliest, and once only behind an 8th byte that is divisible.
        dueCuts(check, new int[] {1, 2, 1, 2, 1, 2}, 2, 2, 2);
        dueCuts(check, new int[] {1, 1, 1, 1, 1, 1, 1, 2, 1, 1}, 8, 2);
        dueCuts(check, new int[] {1, 1, 1, 1, 1, 1, 1, 1, 2}, 8, 1);
        // No empty piece behind a cut at the end.
        dueCuts(check, new int[] {1, 1, 2}, 3);
        dueCuts(check, new int[] {1, 1, 1, 1, 1, 1, 1, 1, 1, 1, 1, 1, 1, 1, 1, 1}, 8, 8);
        dueCuts(check, new int[] {}, 0);
        // 0 and 5, 250 and 255 are divisible too; the sum counts, not its parts.
        dueCuts(check, new int[] {0, 5, 250, 255}, 2, 2);
        dueCuts(check, new int[] {0, 1, 0, 1}, 4);
        dueCuts(check, new int[] {255, 254, 253, 252, 251, 250, 249, 248, 247}, 3, 5, 1);
        BlockExchange x = new BlockExchange();
        for (int i = 0; i < 32; i++) {
            x.type(1);
        }
        int four = x.add(0, 0, 4);
        check.due("length of 32 bytes in four pieces", x.length(0, four), 32);
        check.due("blocks(0): one leaf and one tree", x.blocks(0), 2);
        check.due("count", x.raw(0, four, 1), 4);
        for (int i = 0; i < 32; i++) {
            x.type(0);
        }
        int most = x.add(1, 0, 4);
        check.due("length of 32 bytes in 16 pieces", x.length(1, most), 32);
        check.due("size of its first part", x.raw(1, most, 2), 8);
        check.due("blocks(1): one leaf, two trees", x.blocks(1), 3);
    }

    private static void dueCuts(Check check, int[] row, int... sizes) {
        BlockExchange x = new BlockExchange();
        Check.typeAll(x, row);
        int name = x.add(0, 0, 4);
        List<Integer> seen = new ArrayList<>();
        if (x.raw(0, name, 0) == 0) {
            seen.add(x.length(0, name));
        }
        for (int i = 0; x.raw(0, name, 0) == 1 && i < x.raw(0, name, 1); i++) {
            seen.add(x.raw(0, name, 2 + 4 * i));
        }
        List<Integer> want = new ArrayList<>();
        for (int size : sizes) {
            want.add(size);
        }
        check.due("the cuts", seen.toString(), want.toString());
    }

    private static void levels(Check check) {
        check.part("levels of trees");
        BlockExchange x = new BlockExchange();
        Check.typeAll(x, 1, 2, 3, 4, 5, 6, 7);
        int[] first = Check.tree(1, Check.nameOf(0, 1), 1, Check.nameOf(0, 2), 1, Check.nameOf(0, 3));
        int[] second = Check.tree(1, Check.nameOf(0, 4), 1, Check.nameOf(0, 5), 1, Check.nameOf(0, 6));
        int[] third = Check.tree(1, Check.nameOf(0, 7));
        int[] top = Check.tree(3, Check.nameOf(first), 3, Check.nameOf(second), 1, Check.nameOf(third));
        check.due("add(0, 1, 3)", x.add(0, 1, 3), Check.nameOf(top));
        check.due("blocks(0)", x.blocks(0), 11);
        dueBlock(check, x, 0, first);
        dueBlock(check, x, 0, second);
        dueBlock(check, x, 0, third);
        dueBlock(check, x, 0, top);

        Check.typeAll(x, 1, 2, 3);
        int[] pair = Check.tree(1, Check.nameOf(0, 1), 1, Check.nameOf(0, 2));
        int[] single = Check.tree(1, Check.nameOf(0, 3));
        int[] both = Check.tree(2, Check.nameOf(pair), 1, Check.nameOf(single));
        check.due("add(1, 1, 2)", x.add(1, 1, 2), Check.nameOf(both));
        check.due("blocks(1)", x.blocks(1), 6);
        dueBlock(check, x, 1, single);

        for (int i = 0; i < 32; i++) {
            x.type(100 + i);
        }
        int big = x.add(2, 1, 2);
        check.due("blocks(2) of 32 leaves by twos", x.blocks(2), 63);
        for (int i = 0; i < 32; i++) {
            check.due("read " + i, x.read(2, big, i), 100 + i);
        }
    }

    private static void sameBlocks(Check check) {
        check.part("same pieces");
        BlockExchange x = new BlockExchange();
        for (int i = 0; i < 32; i++) {
            x.type(6);
        }
        int top = x.add(0, 1, 4);
        check.due("blocks(0) of same bytes", x.blocks(0), 4);
        check.due("length", x.length(0, top), 32);
        Check.typeAll(x, 6);
        check.due("add of what is there", x.add(0, 1, 4), Check.nameOf(0, 6));
        check.due("blocks(0)", x.blocks(0), 4);
        check.due("name()", x.name(), 40503);
    }

    private static void nameZero(Check check) {
        check.part("a file of the name 0");
        BlockExchange x = new BlockExchange();
        int[] row = Check.leafNamed(0);
        Check.typeAll(x, java.util.Arrays.copyOfRange(row, 1, row.length));
        check.due("add(0, 8, 2)", x.add(0, 8, 2), 0);
        check.due("name() after it", x.name(), 40503);
        check.due("read", x.read(0, 0, 2), row[3]);
    }

    private static void wrongNumbers(Check check) {
        check.part("add, refused with -1");
        BlockExchange x = new BlockExchange();
        Check.typeAll(x, 1, 2, 3);
        String seen = Check.look(x);
        check.due("add(-1, 2, 2)", x.add(-1, 2, 2), -1);
        check.due("add(3, 2, 2)", x.add(3, 2, 2), -1);
        check.due("add(0, -1, 2)", x.add(0, -1, 2), -1);
        check.due("add(0, 9, 2)", x.add(0, 9, 2), -1);
        check.due("add(0, 2, 1)", x.add(0, 2, 1), -1);
        check.due("add(0, 2, 0)", x.add(0, 2, 0), -1);
        check.due("add(0, 2, 5)", x.add(0, 2, 5), -1);
        check.due("what is seen", Check.look(x), seen);
    }

    private static void collisions(Check check) {
        check.part("add, refused with -2");
        BlockExchange x = new BlockExchange();
        // 0 0 7 and 249 34 7 are the contents of leaves with one name.
        Check.typeAll(x, 0, 0, 7, 249, 34, 7);
        String seen = Check.look(x);
        check.due("add of two that collide", x.add(0, 3, 2), -2);
        check.due("what is seen", Check.look(x), seen);
        check.due("add in other pieces", x.add(0, 6, 2), Check.nameOf(0, 0, 0, 7, 249, 34, 7));

        int there = Check.putBlock(x, 1, 0, 249, 34, 7);
        Check.typeAll(x, 0, 0, 7, 5);
        seen = Check.look(x, there, Check.nameOf(0, 5));
        check.due("add of one that collides with a block there", x.add(1, 3, 2), -2);
        check.due("what is seen", Check.look(x, there, Check.nameOf(0, 5)), seen);

        int[] tree = Check.tree(1, Check.nameOf(0, 1), 1, Check.nameOf(0, 2));
        Check.putBlock(x, 2, Check.twinLeaf(tree));
        Check.typeAll(x, 1, 2);
        check.due("add whose tree collides", x.add(2, 1, 2), -2);
        check.due("blocks(2)", x.blocks(2), 1);
    }

    /** A file whose tree has the name of its own first leaf. */
    private static void leafAndTreeCollide(Check check) {
        check.part("a tree and a leaf of one file collide");
        for (int i = 0; i < 256 * 256 * 256; i++) {
            int[] content = {i & 255, i >> 8 & 255, i >> 16, 9};
            int first = Check.nameOf(Check.leaf(content[0], content[1], content[2]));
            if (Check.nameOf(Check.tree(3, first, 1, Check.nameOf(0, 9))) == first) {
                BlockExchange x = new BlockExchange();
                Check.typeAll(x, content);
                check.due("add", x.add(0, 3, 2), -2);
                check.due("blocks(0)", x.blocks(0), 0);
                check.due("name(): the buffer stays", x.name(), Check.nameOf(content));
                check.due("add in one piece", x.add(0, 4, 2), Check.nameOf(Check.leaf(content)));
                return;
            }
        }
        check.due("a tree with the name of its leaf", false, true);
    }

    private static void sameNameSameBytes(Check check) {
        check.part("the same bytes are no collision");
        BlockExchange x = new BlockExchange();
        Check.putBlock(x, 0, 0, 0, 0, 7);
        Check.typeAll(x, 0, 0, 7, 0, 0, 7);
        int leaf = Check.nameOf(0, 0, 0, 7);
        check.due("add", x.add(0, 3, 2), Check.nameOf(Check.tree(3, leaf, 3, leaf)));
        check.due("blocks(0)", x.blocks(0), 2);
        check.part("a twin in another store is no collision");
        Check.typeAll(x, 249, 34, 7);
        check.due("add in store 0", x.add(0, 3, 2), -2);
        check.due("add in store 1", x.add(1, 3, 2), leaf);
        check.due("raw(1)", x.raw(1, leaf, 1), 249);
        check.due("raw(0)", x.raw(0, leaf, 1), 0);
    }

    private static void listStays(Check check) {
        check.part("the list stays");
        BlockExchange x = new BlockExchange();
        x.entry(3, 4);
        Check.typeAll(x, 1, 2);
        check.due("add", x.add(0, 8, 2), Check.nameOf(0, 1, 2));
        Check.typeAll(x, 0, 1);
        check.due("put", x.put(0), Check.nameOf(0, 1));
        check.due("folder", x.folder(0), Check.nameOf(Check.folder(3, 4)));
    }

    private static void room(Check check) {
        check.part("add, refused with -3");
        BlockExchange x = new BlockExchange();
        for (int i = 0; i < 60; i++) {
            Check.putBlock(x, 0, 0, i);
        }
        int twinned = Check.putBlock(x, 0, Check.twinLeaf(0, 0, 0, 7));
        Check.typeAll(x, 200, 201, 202);
        String seen = Check.look(x, twinned, Check.nameOf(0, 200));
        check.due("add of four for three places", x.add(0, 1, 3), -3);
        check.due("what is seen", Check.look(x, twinned, Check.nameOf(0, 200)), seen);
        x.clear();
        Check.typeAll(x, 0, 0, 7, 201, 202, 203, 204, 205, 206, 207, 208, 209);
        check.due("add that collides and has no room", x.add(0, 3, 2), -2);
        x.clear();
        Check.typeAll(x, 200, 201, 5, 5, 5);
        check.due("add of five new ones for three places", x.add(0, 1, 4), -3);
        x.clear();
        Check.typeAll(x, 200, 201, 5, 5);
        int top = x.add(0, 1, 4);
        check.due("read of what filled the store", x.read(0, top, 1), 201);
        check.due("blocks(0)", x.blocks(0), 64);
        Check.typeAll(x, 200, 201, 5, 5);
        check.due("add again to the full store", x.add(0, 1, 4), top);
    }
}

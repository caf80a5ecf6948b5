/** Promises 7, 8 and 13: entry, folder, find. */
public final class FolderTest {
    public static void main(String[] args) {
        Check check = new Check();
        entries(check);
        smallFolders(check);
        nameZero(check);
        everyCount(check);
        shards(check);
        waysWithoutTitles(check);
        fourAndFiveOfOneWay(check);
        deepShards(check);
        sameFolders(check);
        refusals(check);
        finding(check);
        everyMask(check);
        bitsOfEachShard(check);
        brokenFolders(check);
        titlesOutside(check);
        check.finish();
    }

    private static void entries(Check check) {
        check.part("promise 7");
        BlockExchange x = new BlockExchange();
        check.due("entry(0, 1)", x.entry(0, 1), false);
        check.due("entry(256, 1)", x.entry(256, 1), false);
        check.due("entry(-1, 1)", x.entry(-1, 1), false);
        check.due("entry(1, -1)", x.entry(1, -1), false);
        check.due("entry(1, 65521)", x.entry(1, 65521), false);
        check.due("folder(0) of nothing", x.folder(0), Check.nameOf(2, 0));
        check.due("entry(255, 65520)", x.entry(255, 65520), true);
        check.due("entry(1, 0)", x.entry(1, 0), true);
        check.due("folder(0)", x.folder(0), Check.nameOf(Check.folder(1, 0, 255, 65520)));
        for (int i = 16; i >= 1; i--) {
            check.due("entry", x.entry(i, i), true);
        }
        check.due("entry of a 17th title", x.entry(17, 5), false);
        check.due("entry of a title that is there", x.entry(9, 99), true);
        check.due("entry of the last title", x.entry(16, 88), true);
        int top = x.folder(1);
        for (int i = 1; i <= 16; i++) {
            check.due("find " + i, x.find(1, top, i), i == 9 ? 99 : i == 16 ? 88 : i);
        }
        check.due("find 17", x.find(1, top, 17), -1);
    }

    private static void smallFolders(Check check) {
        check.part("folders of one block");
        BlockExchange x = new BlockExchange();
        Check.typeAll(x, 1, 2);
        x.entry(9, 1);
        x.entry(3, 2);
        x.entry(200, 3);
        x.entry(5, 4);
        x.entry(5, 5);
        int[] row = Check.folder(3, 2, 5, 5, 9, 1, 200, 3);
        check.due("folder(2)", x.folder(2), Check.nameOf(row));
        check.due("blocks(2)", x.blocks(2), 1);
        for (int i = 0; i < row.length; i++) {
            check.due("raw " + i, x.raw(2, Check.nameOf(row), i), row[i]);
        }
        check.due("name(): the buffer stays", x.name(), Check.nameOf(1, 2));
        check.due("folder(2) of an empty list", x.folder(2), Check.nameOf(2, 0));
    }

    private static void nameZero(Check check) {
        check.part("a folder of the name 0");
        for (int link = 0; link < 3 * 65521; link++) {
            int title = 1 + link / 65521;
            if (Check.nameOf(Check.folder(title, link % 65521)) == 0) {
                BlockExchange x = new BlockExchange();
                x.entry(title, link % 65521);
                check.due("folder(0)", x.folder(0), 0);
                check.due("find", x.find(0, 0, title), link % 65521);
                check.due("folder(0): the list is empty", x.folder(0), Check.nameOf(2, 0));
                return;
            }
        }
        check.due("a folder of the name 0", false, true);
    }

    private static void everyCount(Check check) {
        check.part("at most 4 titles are one folder, more are a shard");
        for (int count = 0; count <= 16; count++) {
            BlockExchange x = new BlockExchange();
            for (int i = count; i >= 1; i--) {
                x.entry(15 * i, 1000 + i);
            }
            int top = x.folder(0);
            check.due("form of " + count + " titles", x.raw(0, top, 0), count <= 4 ? 2 : 3);
            check.due("one block of " + count + " titles", x.blocks(0) == 1, count <= 4);
            if (count <= 4) {
                check.due("count of " + count + " titles", x.raw(0, top, 1), count);
            }
            for (int title = 1; title <= 255; title++) {
                boolean there = title % 15 == 0 && title <= 15 * count;
                check.due("find " + title + " of " + count, x.find(0, top, title), there ? 1000 + title / 15 : -1);
            }
        }
    }

    /** Titles whose numbers go the ways of the mask and no others: a shard of just these links. */
    private static void waysWithoutTitles(Check check) {
        check.part("a way without titles has no link");
        for (int mask = 1; mask <= 15; mask++) {
            BlockExchange x = new BlockExchange();
            int count = 0;
            for (int title = 1; count < 16; title++) {
                // 37 * title and title have the same lowest two bits.
                if ((mask >> title % 4 & 1) == 1) {
                    x.entry(title, title);
                    count++;
                }
            }
            int top = x.folder(0);
            check.due("kind", x.raw(0, top, 0), 3);
            check.due("mask", x.raw(0, top, 1), mask);
            check.due("bytes", x.bytes(0, top), 2 + 2 * Integer.bitCount(mask));
            for (int title = 1; title <= 8; title++) {
                check.due("find " + title, x.find(0, top, title), (mask >> title % 4 & 1) == 1 ? title : -1);
            }
        }
    }

    private static void fourAndFiveOfOneWay(Check check) {
        check.part("at most 4 titles of one way are a folder, more are a shard");
        for (int count = 4; count <= 5; count++) {
            BlockExchange x = new BlockExchange();
            x.entry(1, 100);
            for (int n = 1; n <= count; n++) {
                x.entry(4 * n, n);
            }
            int top = x.folder(0);
            int below = x.raw(0, top, 2) + 256 * x.raw(0, top, 3);
            check.due("mask", x.raw(0, top, 1), 3);
            check.due("kind of way 0", x.raw(0, below, 0), count == 4 ? 2 : 3);
            check.due("blocks(0)", x.blocks(0), count == 4 ? 3 : 7);
            for (int n = 1; n <= 5; n++) {
                check.due("find " + 4 * n, x.find(0, top, 4 * n), n <= count ? n : -1);
                // Who begins at the lower shard begins with the lowest two bits, by which it has only 16.
                boolean below4 = count == 4 ? n <= 4 : n == 4;
                check.due("find below " + 4 * n, x.find(0, below, 4 * n), below4 ? n : -1);
            }
        }
    }

    /** Blocks of a folder that are there already, or twice among them, come in once. */
    private static void sameFolders(Check check) {
        check.part("a folder that is there already");
        BlockExchange x = new BlockExchange();
        for (int round = 0; round < 2; round++) {
            for (int title = 1; title <= 5; title++) {
                check.due("entry", x.entry(title, 1000 + title), true);
            }
            check.due("find in the folder", x.find(0, x.folder(0), 5), 1005);
            check.due("blocks(0)", x.blocks(0), 5);
        }
        Check.putBlock(x, 1, Check.folder(4, 1004));
        for (int title = 1; title <= 5; title++) {
            x.entry(title, 1000 + title);
        }
        check.due("find in the folder", x.find(1, x.folder(1), 4), 1004);
        check.due("blocks(1)", x.blocks(1), 5);
    }

    private static void shards(Check check) {
        check.part("folders of shards");
        BlockExchange x = new BlockExchange();
        // 37 * 1 .. 37 * 5 have 1, 2, 3, 0, 1 as their lowest two bits.
        for (int title = 1; title <= 5; title++) {
            x.entry(title, 1000 + title);
        }
        int[] way0 = Check.folder(4, 1004);
        int[] way1 = Check.folder(1, 1001, 5, 1005);
        int[] way2 = Check.folder(2, 1002);
        int[] way3 = Check.folder(3, 1003);
        int[] top = Check.shard(15, Check.nameOf(way0), Check.nameOf(way1), Check.nameOf(way2), Check.nameOf(way3));
        check.due("folder(0)", x.folder(0), Check.nameOf(top));
        check.due("blocks(0)", x.blocks(0), 5);
        check.due("bytes of way 1", x.bytes(0, Check.nameOf(way1)), way1.length);
        // 37 * 4 * n: all on way 0; of their next two bits n = 1, 2, 3, 4, 5 have 1, 2, 3, 0, 1.
        for (int n = 1; n <= 5; n++) {
            x.entry(4 * n, n);
        }
        int[] low = Check.shard(15, Check.nameOf(Check.folder(16, 4)), Check.nameOf(Check.folder(4, 1, 20, 5)),
                Check.nameOf(Check.folder(8, 2)), Check.nameOf(Check.folder(12, 3)));
        check.due("folder(1)", x.folder(1), Check.nameOf(Check.shard(1, Check.nameOf(low))));
        check.due("blocks(1)", x.blocks(1), 6);
    }

    private static void deepShards(Check check) {
        check.part("folders of deep shards");
        BlockExchange x = new BlockExchange();
        // Multiples of 16 differ in the third pair of bits at the earliest.
        for (int n = 1; n <= 15; n++) {
            x.entry(16 * n, n);
        }
        x.entry(1, 77);
        int top = x.folder(0);
        check.due("blocks(0)", x.blocks(0), 8);
        check.due("raw: mask of the top", x.raw(0, top, 1), 3);
        for (int n = 1; n <= 15; n++) {
            check.due("find " + 16 * n, x.find(0, top, 16 * n), n);
        }
        check.due("find 1", x.find(0, top, 1), 77);
        check.due("find 2", x.find(0, top, 2), -1);
        check.due("find 17", x.find(0, top, 17), -1);
    }

    private static void refusals(Check check) {
        check.part("folder, refused");
        BlockExchange x = new BlockExchange();
        x.entry(3, 4);
        check.due("folder(-1)", x.folder(-1), -1);
        check.due("folder(3)", x.folder(3), -1);
        int[] row = Check.folder(3, 4);
        int[] twin = Check.twinLeaf(row);
        Check.typeAll(x, twin);
        int name = x.put(0);
        check.due("folder(0) of a twin", x.folder(0), -2);
        check.due("bytes of what is there", x.bytes(0, name), twin.length);
        check.due("folder(1): the list has stayed", x.folder(1), name);

        BlockExchange full = new BlockExchange();
        for (int i = 0; i < 60; i++) {
            Check.putBlock(full, 0, 0, i);
        }
        for (int title = 1; title <= 5; title++) {
            full.entry(title, 1000 + title);
        }
        check.due("folder(0) of five for four places", full.folder(0), -3);
        check.due("blocks(0)", full.blocks(0), 60);
        Check.typeAll(full, Check.folder(2, 1002));
        full.put(0);
        check.due("folder(0), one of them there", full.folder(0), -3);
        Check.typeAll(full, Check.folder(3, 1003));
        full.put(0);
        check.due("folder(0) of three for two places", full.folder(0), -3);
        check.due("blocks(0)", full.blocks(0), 62);
        int top = full.folder(1);
        check.due("find in another store", full.find(1, top, 5), 1005);
        collidingFolders(check);
    }

    /** Two folders of one list that are not the same and have one name. */
    private static void collidingFolders(Check check) {
        int want = Check.nameOf(Check.folder(4, 9));
        for (int link = 0; link < 65521; link++) {
            if (Check.nameOf(Check.folder(2, link)) == want) {
                BlockExchange x = new BlockExchange();
                x.entry(4, 9);
                x.entry(2, link);
                x.entry(1, 1);
                x.entry(5, 1);
                x.entry(3, 1);
                check.due("folder(0) of two that collide", x.folder(0), -2);
                check.due("blocks(0)", x.blocks(0), 0);
                x.entry(2, link == 0 ? 1 : 0);
                check.due("bytes of the mended folder", x.bytes(0, x.folder(0)), 10);
                return;
            }
        }
        check.due("a pair of folders that collide", false, true);
    }

    private static void finding(Check check) {
        check.part("find");
        BlockExchange x = new BlockExchange();
        int leaf = Check.putBlock(x, 0, 0, 1);
        int tree = Check.putBlock(x, 0, Check.tree(1, leaf));
        int low = Check.putBlock(x, 0, Check.folder(1, 65520, 5, 0));
        int top = Check.putBlock(x, 0, Check.shard(2, low));
        check.due("find in a folder", x.find(0, low, 1), 65520);
        check.due("find a link 0", x.find(0, low, 5), 0);
        check.due("find nothing", x.find(0, low, 2), -1);
        check.due("find title 0", x.find(0, low, 0), -1);
        check.due("find title -1", x.find(0, low, -1), -1);
        check.due("find title 256 + 1", x.find(0, low, 257), -1);
        check.due("find in a shard", x.find(0, top, 5), 0);
        check.due("find in a shard, bit is 0", x.find(0, top, 2), -1);
        check.due("find in a shard, not in its folder", x.find(0, top, 9), -1);
        check.due("find in a leaf", x.find(0, leaf, 1), -1);
        check.due("find in a tree", x.find(0, tree, 1), -1);
        check.due("find under no name", x.find(0, low + 1, 1), -1);
        check.due("find elsewhere", x.find(1, low, 1), -1);
        check.due("find(-1)", x.find(-1, low, 1), -1);
        check.due("find(3)", x.find(3, low, 1), -1);
        int[] titles = {0, -1, 256, Integer.MIN_VALUE, Integer.MAX_VALUE};
        for (int title : titles) {
            check.due("find " + title + " in a shard", x.find(0, top, title), -1);
        }
    }

    private static void everyMask(Check check) {
        check.part("the link of each bit of each mask");
        BlockExchange x = new BlockExchange();
        int[] folders = new int[4];
        for (int way = 0; way < 4; way++) {
            folders[way] = Check.putBlock(x, 0, Check.folder(4, 10 + way, 5, 20 + way, 6, 30 + way, 7, 40 + way));
        }
        for (int mask = 1; mask <= 15; mask++) {
            int[] links = {};
            for (int way = 0; way < 4; way++) {
                links = (mask >> way & 1) == 1 ? Check.join(links, folders[way]) : links;
            }
            int shard = Check.putBlock(x, 0, Check.shard(mask, links));
            for (int way = 0; way < 4; way++) {
                // Titles 4 to 7 go the ways 0 to 3.
                int due = (mask >> way & 1) == 1 ? 10 * (way + 1) + way : -1;
                check.due("find " + (4 + way) + ", mask " + mask, x.find(0, shard, 4 + way), due);
            }
        }
    }

    /** A shard of one bit, s links down: titles with these two bits find, the others find nothing. */
    private static void bitsOfEachShard(Check check) {
        check.part("bits 2s and 2s + 1 of (37 * title) modulo 256");
        for (int s = 0; s < 4; s++) {
            for (int way = 0; way < 4; way++) {
                for (int title = 1; title <= 255; title += 2 + s) {
                    BlockExchange x = new BlockExchange();
                    int top = Check.putBlock(x, 0, Check.shard(1 << way, Check.putBlock(x, 0, Check.folder(title, 9))));
                    for (int i = 0; i < s; i++) {
                        top = Check.putBlock(x, 0, Check.shard(15, top, top, top, top));
                    }
                    int number = 37 * title % 256;
                    int bits = new int[] {number % 4, number / 4 % 4, number / 16 % 4, number / 64}[s];
                    check.due("find " + title + ", s " + s + ", way " + way, x.find(0, top, title), bits == way ? 9 : -1);
                }
            }
        }
    }

    private static void brokenFolders(Check check) {
        check.part("find, broken");
        BlockExchange x = new BlockExchange();
        int leaf = Check.putBlock(x, 0, 0, 1);
        int absent = Check.putBlock(x, 0, Check.shard(3, leaf, Check.nameOf(0, 2)));
        check.due("find over what is not there", x.find(0, absent, 1), -2);
        check.due("find over a leaf", x.find(0, absent, 4), -2);
        check.due("find where there is nothing", x.find(0, absent, 2), -1);
        int tree = Check.putBlock(x, 0, Check.tree(1, leaf));
        check.due("find over a tree", x.find(0, Check.putBlock(x, 0, Check.shard(2, tree)), 1), -2);
        // All bits of the masks are 1, so that every title goes the whole way down.
        int below = Check.putBlock(x, 0, Check.folder(1, 11, 7, 12));
        for (int s = 0; s < 4; s++) {
            below = Check.putBlock(x, 0, Check.shard(15, below, below, below, below));
        }
        check.due("find in a folder 4 links down", x.find(0, below, 7), 12);
        check.due("find nothing 4 links down", x.find(0, below, 8), -1);
        below = Check.putBlock(x, 0, Check.shard(15, below, below, below, below));
        check.due("find over a shard 4 links down", x.find(0, below, 7), -2);
    }

    /** No title is refused: those outside 1 .. 255 go down like the others, and find nothing. */
    private static void titlesOutside(Check check) {
        check.part("find, titles outside 1 .. 255");
        int[] titles = {0, -1, 256, 257, Integer.MIN_VALUE, Integer.MAX_VALUE};
        int[] ways = {0, 3, 0, 1, 0, 3};
        for (int i = 0; i < titles.length; i++) {
            BlockExchange x = new BlockExchange();
            int low = Check.putBlock(x, 0, Check.folder(1, 9, 255, 9));
            int absent = Check.nameOf(0, 2);
            check.due("find " + titles[i] + " in a folder", x.find(0, low, titles[i]), -1);
            for (int way = 0; way < 4; way++) {
                int[] links = {low, low, low, low};
                links[way] = absent;
                int top = Check.putBlock(x, 0, Check.shard(15, links));
                int due = way == ways[i] ? -2 : -1;
                check.due("find " + titles[i] + ", way " + way + " is broken", x.find(0, top, titles[i]), due);
                int one = Check.putBlock(x, 0, Check.shard(1 << way, absent));
                check.due("find " + titles[i] + ", way " + way + " alone", x.find(0, one, titles[i]), due);
            }
        }
    }
}

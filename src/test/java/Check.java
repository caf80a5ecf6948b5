import java.util.ArrayList;
import java.util.List;

/** Counts wrong answers and knows how to make what the tests need. */
final class Check {
    private int wrong = 0;
    private int looked = 0;
    private String part = "";

    void part(String name) {
        part = name;
    }

    void due(String call, long got, long want) {
        looked++;
        if (got != want) {
            wrong++;
            System.out.println(part + ": " + call + " answered " + got + ", due is " + want);
        }
    }

    void due(String call, boolean got, boolean want) {
        due(call, got ? 1 : 0, want ? 1 : 0);
    }

    void due(String call, String got, String want) {
        looked++;
        if (!got.equals(want)) {
            wrong++;
            System.out.println(part + ": " + call + " answered\n" + got + "\ndue is\n" + want);
        }
    }

    void finish() {
        System.out.println(wrong == 0 ? looked + " answers are as due" : wrong + " answers are not as due");
        if (wrong != 0) {
            System.exit(1);
        }
    }

    static int nameOf(int... bytes) {
        long h = 40503;
        for (int b : bytes) {
            h = (263 * h + b + 1) % 65521;
        }
        return (int) h;
    }

    static void typeAll(BlockExchange x, int... bytes) {
        for (int b : bytes) {
            if (!x.type(b)) {
                throw new IllegalStateException("a byte was not taken");
            }
        }
    }

    /** Puts a block that must come in: its name. */
    static int putBlock(BlockExchange x, int store, int... bytes) {
        x.clear();
        typeAll(x, bytes);
        int name = x.put(store);
        if (name != nameOf(bytes)) {
            throw new IllegalStateException("put answered " + name);
        }
        return name;
    }

    static int[] leaf(int... content) {
        return join(new int[] {0}, content);
    }

    /** Sizes and links by turns. */
    static int[] tree(int... sizesAndLinks) {
        int[] row = {1, sizesAndLinks.length / 2};
        for (int number : sizesAndLinks) {
            row = join(row, number % 256, number / 256);
        }
        return row;
    }

    /** Titles and links by turns. */
    static int[] folder(int... titlesAndLinks) {
        int[] row = {2, titlesAndLinks.length / 2};
        for (int i = 0; i < titlesAndLinks.length; i += 2) {
            row = join(row, titlesAndLinks[i], titlesAndLinks[i + 1] % 256, titlesAndLinks[i + 1] / 256);
        }
        return row;
    }

    static int[] shard(int mask, int... links) {
        int[] row = {3, mask};
        for (int link : links) {
            row = join(row, link % 256, link / 256);
        }
        return row;
    }

    static int[] join(int[] row, int... more) {
        int[] both = new int[row.length + more.length];
        System.arraycopy(row, 0, both, 0, row.length);
        System.arraycopy(more, 0, both, row.length, more.length);
        return both;
    }

    /** A leaf that is not this row and has its name. */
    static int[] twinLeaf(int... row) {
        return leafNamed(nameOf(row), row);
    }

    /** A leaf of that name that is not this row. */
    static int[] leafNamed(int name, int... not) {
        for (int i = 0; i < 256 * 256 * 256; i++) {
            int[] row = leaf(i & 255, i >> 8 & 255, i >> 16);
            if (nameOf(row) == name && !java.util.Arrays.equals(row, not)) {
                return row;
            }
        }
        throw new IllegalStateException("no leaf");
    }

    /** Makes a folder that must come in, of at most four links at the titles 1, 2 ..: its name. */
    static int putFolder(BlockExchange x, int store, int... links) {
        for (int i = 0; i < links.length; i++) {
            x.entry(1 + i, links[i]);
        }
        int name = x.folder(store);
        if (name < 0) {
            throw new IllegalStateException("folder answered " + name);
        }
        return name;
    }

    /** Brings a store to so many blocks with few calls; buffer and list are empty then. */
    static void fillStore(BlockExchange x, int store, int count) {
        x.clear();
        int leaves = 32;
        while (leaves > 0 && blocksOfFile(leaves) > count - x.blocks(store)) {
            leaves--;
        }
        for (int i = 0; i < leaves; i++) {
            x.type(100 + i);
        }
        if (leaves > 0) {
            x.add(store, 1, 2);
        }
        for (int i = 0; i < 3 && x.blocks(store) < count; i++) {
            putBlock(x, store, 0, 140 + i);
        }
        if (x.blocks(store) != count) {
            throw new IllegalStateException("the store has " + x.blocks(store) + " blocks");
        }
    }

    /** How many blocks a file of so many leaves has, its trees with two links each. */
    private static int blocksOfFile(int leaves) {
        return leaves < 2 ? leaves : leaves + blocksOfFile((leaves + 1) / 2);
    }

    /** A tree of two parts whose first link is its own name and whose second one is given. */
    static int[] treeOfItself(int secondSize, int secondLink) {
        for (int size = 1; size < 65536; size++) {
            for (int link = 0; link < 65521; link++) {
                int[] row = tree(size, link, secondSize, secondLink);
                if (nameOf(row) == link) {
                    return row;
                }
            }
        }
        throw new IllegalStateException("no tree");
    }

    /** All that can be seen of an object but its list: for looking whether a call changed something. */
    static String look(BlockExchange x, int... names) {
        List<String> seen = new ArrayList<>();
        seen.add("buffer " + x.name());
        for (int store = 0; store < 3; store++) {
            StringBuilder line = new StringBuilder("store " + store + ": " + x.blocks(store) + " blocks, fetch "
                    + x.state(store));
            for (int name : names) {
                line.append(", ").append(name).append(':');
                for (int i = 0; i < x.bytes(store, name); i++) {
                    line.append(' ').append(x.raw(store, name, i));
                }
            }
            seen.add(line.toString());
        }
        for (int k = 0; k < x.waiting(); k++) {
            seen.add("message " + lookAtMessage(x, k));
        }
        return String.join("\n", seen);
    }

    static String lookAtMessage(BlockExchange x, int k) {
        return x.message(k, 0) + " " + x.message(k, 1) + ">" + x.message(k, 2) + " " + x.message(k, 3);
    }

    /** The waiting messages, as kind, sender, receiver and name of each. */
    static String lookAtLine(BlockExchange x) {
        List<String> seen = new ArrayList<>();
        for (int k = 0; k < x.waiting(); k++) {
            seen.add(lookAtMessage(x, k));
        }
        return String.join(", ", seen);
    }
}

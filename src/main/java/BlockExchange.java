/**
 * Three stores of blocks that are named by a hash of their bytes, with pins, collection,
 * and fetches from one store to another over a line that is not to be trusted.
 *
 * <p>All rows are made once, in the constructors: no call makes an object.
 */
public final class BlockExchange {
    private static final int STORES = 3;
    private static final int STORE_ROOM = 64;
    private static final int BUFFER_ROOM = 32;
    private static final int BYTE_MOST = 255;
    private static final int NAMES = 65521;

    private static final int REFUSED = -1;
    private static final int NOTHING = -1;
    private static final int COLLISION = -2;
    private static final int BROKEN = -2;
    private static final int NO_ROOM = -3;
    private static final int FINE = 0;

    private final Store[] stores;
    private final int[] buffer;
    private int typed;
    private final FileMaker fileMaker;
    private final TitleList list;
    private final Batch batch;
    private final Line line;
    private final Walk before;
    private final Walk now;

    public BlockExchange() {
        stores = new Store[STORES];
        for (int i = 0; i < STORES; i++) {
            stores[i] = new Store();
        }
        buffer = new int[BUFFER_ROOM];
        typed = 0;
        fileMaker = new FileMaker();
        list = new TitleList();
        batch = new Batch();
        line = new Line();
        before = new Walk();
        now = new Walk();
    }

    public boolean type(int b) {
        if (b < 0 || b > BYTE_MOST || typed >= BUFFER_ROOM) {
            return false;
        }
        buffer[typed] = b;
        typed++;
        return true;
    }

    public void clear() {
        typed = 0;
        list.makeEmpty();
    }

    public int name() {
        return nameOf(buffer, 0, typed);
    }

    public int put(int store) {
        if (!isStore(store) || typed > Form.BLOCK_ROOM) {
            return REFUSED;
        }
        batch.restart();
        for (int i = 0; i < typed; i++) {
            batch.write(buffer[i]);
        }
        int made = batch.finishBlock();
        if (!Form.isBlock(batch.made(), 0)) {
            return REFUSED;
        }
        int answer = bringIn(store, made);
        if (answer >= 0) {
            typed = 0;
        }
        return answer;
    }

    public int add(int store, int chunk, int fan) {
        if (!isStore(store) || chunk < 0 || chunk > Form.CONTENT_MOST
                || fan < 2 || fan > Form.PARTS_MOST) {
            return REFUSED;
        }
        batch.restart();
        int made = fileMaker.makeFile(buffer, typed, chunk, fan, batch);
        int answer = bringIn(store, made);
        if (answer >= 0) {
            typed = 0;
        }
        return answer;
    }

    public boolean entry(int title, int name) {
        if (title < 1 || title > BYTE_MOST || !isName(name)) {
            return false;
        }
        return list.enter(title, name);
    }

    public int folder(int store) {
        if (!isStore(store)) {
            return REFUSED;
        }
        batch.restart();
        int made = list.makeFolder(batch);
        int answer = bringIn(store, made);
        if (answer >= 0) {
            list.makeEmpty();
        }
        return answer;
    }

    public int bytes(int store, int name) {
        if (!isStore(store)) {
            return NOTHING;
        }
        Shelf shelf = stores[store].shelf();
        return shelf.sizeAt(shelf.slotOf(name));
    }

    public int raw(int store, int name, int i) {
        if (!isStore(store)) {
            return NOTHING;
        }
        Shelf shelf = stores[store].shelf();
        return shelf.byteAt(shelf.slotOf(name), i);
    }

    public int length(int store, int name) {
        if (!isStore(store)) {
            return NOTHING;
        }
        Shelf shelf = stores[store].shelf();
        return Form.lengthAt(shelf, shelf.slotOf(name));
    }

    public int read(int store, int name, int p) {
        return isStore(store) ? Path.readByte(stores[store].shelf(), name, p) : NOTHING;
    }

    public int find(int store, int name, int title) {
        return isStore(store) ? Path.findTitle(stores[store].shelf(), name, title) : NOTHING;
    }

    public boolean pin(int store, int name, boolean deep, boolean on) {
        if (!isStore(store)) {
            return false;
        }
        return on ? stores[store].pinBlock(name, deep) : stores[store].unpinBlock(name, deep);
    }

    public int collect(int store) {
        return isStore(store) ? stores[store].sweep(now) : REFUSED;
    }

    public int blocks(int store) {
        return isStore(store) ? stores[store].shelf().count() : NOTHING;
    }

    public int fetch(int store, int peer, int name) {
        if (!isStore(store) || !isStore(peer) || store == peer || !isName(name)) {
            return REFUSED;
        }
        stores[store].startFetch(peer, name);
        return wantAllMissing(store);
    }

    public int retry(int store) {
        if (!isStore(store) || !stores[store].isFetching()) {
            return REFUSED;
        }
        return wantAllMissing(store);
    }

    public int deliver(int k) {
        if (!line.has(k)) {
            return NOTHING;
        }
        int kind = line.kindAt(k);
        int sender = line.senderAt(k);
        int receiver = line.receiverAt(k);
        int name = line.nameAt(k);
        if (kind == Line.GIVE) {
            batch.restart();
            batch.takeCopy(line.rows(), k);
        }
        // The message leaves before it acts: its place is free for what is sent then.
        line.lose(k);
        if (kind == Line.WANT) {
            answerWant(sender, receiver, name);
        } else if (kind == Line.GIVE) {
            receiveGive(sender, receiver, name);
        } else {
            receiveNone(sender, receiver, name);
        }
        return kind;
    }

    public boolean harm(int k, int i, int x) {
        if (!line.has(k)) {
            return false;
        }
        if (x == 0) {
            line.lose(k);
            return true;
        }
        return line.damage(k, i, x);
    }

    public int message(int k, int what) {
        if (!line.has(k)) {
            return NOTHING;
        }
        switch (what) {
            case 0:
                return line.kindAt(k);
            case 1:
                return line.senderAt(k);
            case 2:
                return line.receiverAt(k);
            case 3:
                return line.nameAt(k);
            default:
                return NOTHING;
        }
    }

    public int waiting() {
        return line.count();
    }

    public int state(int store) {
        return isStore(store) ? stores[store].fetchState() : NOTHING;
    }

    private static boolean isStore(int number) {
        return number >= 0 && number < STORES;
    }

    private static boolean isName(int number) {
        return number >= 0 && number < NAMES;
    }

    private static int nameOf(int[] row, int from, int size) {
        int h = 40503;
        for (int i = from; i < from + size; i++) {
            h = (263 * h + row[i] + 1) % NAMES;
        }
        return h;
    }

    /** The batch comes into a store as a whole: the name of its top block, or why not. */
    private int bringIn(int store, int topName) {
        int outcome = stores[store].takeBatch(batch);
        if (outcome != FINE) {
            return outcome;
        }
        if (stores[store].isFetching()) {
            stores[store].walkFetch(now);
        }
        return topName;
    }

    private int wantAllMissing(int store) {
        stores[store].walkFetch(now);
        int count = now.missingCount();
        for (int i = 0; i < count; i++) {
            line.sendName(Line.WANT, store, stores[store].fetchPeer(), now.missingAt(i));
        }
        return count;
    }

    private void answerWant(int wanter, int owner, int name) {
        Shelf shelf = stores[owner].shelf();
        int slot = shelf.slotOf(name);
        if (slot < 0) {
            line.sendName(Line.NONE, owner, wanter, name);
        } else {
            line.sendBlock(owner, wanter, shelf, slot);
        }
    }

    /** The batch holds the bytes that were given. */
    private void receiveGive(int giver, int wanter, int name) {
        Store store = stores[wanter];
        if (!store.isFetchingFrom(giver) || !Form.isBlock(batch.made(), 0)) {
            return;
        }
        store.walkFetch(before);
        if (!before.misses(name)) {
            return;
        }
        if (store.takeBatch(batch) != FINE) {
            store.failFetch();
            return;
        }
        store.walkFetch(now);
        for (int i = 0; i < now.missingCount(); i++) {
            if (!before.misses(now.missingAt(i))) {
                line.sendName(Line.WANT, wanter, giver, now.missingAt(i));
            }
        }
    }

    private void receiveNone(int sender, int wanter, int name) {
        Store store = stores[wanter];
        if (!store.isFetchingFrom(sender)) {
            return;
        }
        store.walkFetch(now);
        if (now.misses(name)) {
            store.failFetch();
        }
    }

    /** A row of blocks, each in a slot with its name; a slot that is not there has no bytes. */
    private static final class Shelf {
        private final int room;
        private final int[] cells;
        private final int[] sizes;
        private final int[] names;
        private int count;

        Shelf(int room) {
            this.room = room;
            cells = new int[room * Form.BLOCK_ROOM];
            sizes = new int[room];
            names = new int[room];
            count = 0;
        }

        int count() {
            return count;
        }

        boolean isFull() {
            return count >= room;
        }

        boolean hasSlot(int slot) {
            return slot >= 0 && slot < count;
        }

        int slotOf(int name) {
            for (int slot = 0; slot < count; slot++) {
                if (names[slot] == name) {
                    return slot;
                }
            }
            return NOTHING;
        }

        int nameAt(int slot) {
            return hasSlot(slot) ? names[slot] : NOTHING;
        }

        int sizeAt(int slot) {
            return hasSlot(slot) ? sizes[slot] : NOTHING;
        }

        int kindAt(int slot) {
            if (slot < 0 || slot >= count || sizes[slot] < 1) {
                return NOTHING;
            }
            return cells[slot * Form.BLOCK_ROOM];
        }

        int byteAt(int slot, int i) {
            if (slot < 0 || slot >= count || i < 0 || i >= sizes[slot]) {
                return NOTHING;
            }
            return cells[slot * Form.BLOCK_ROOM + i];
        }

        /** Two bytes as one number, the low one first. */
        int pairAt(int slot, int i) {
            if (slot < 0 || slot >= count || i < 0 || i >= sizes[slot] - 1) {
                return NOTHING;
            }
            int place = slot * Form.BLOCK_ROOM + i;
            return cells[place] + 256 * cells[place + 1];
        }

        void append(int name, int[] row, int from, int size) {
            if (isFull() || size > Form.BLOCK_ROOM) {
                return;
            }
            System.arraycopy(row, from, cells, count * Form.BLOCK_ROOM, size);
            sizes[count] = size;
            names[count] = name;
            count++;
        }

        /** A slot for a name alone, without bytes. */
        void appendName(int name) {
            append(name, cells, 0, 0);
        }

        void appendCopy(Shelf other, int slot) {
            if (other.hasSlot(slot)) {
                append(other.names[slot], other.cells, slot * Form.BLOCK_ROOM, other.sizes[slot]);
            }
        }

        void changeByte(int slot, int i, int b) {
            if (byteAt(slot, i) != NOTHING) {
                cells[slot * Form.BLOCK_ROOM + i] = b;
                names[slot] = nameOf(cells, slot * Form.BLOCK_ROOM, sizes[slot]);
            }
        }

        boolean hasSameBytes(int slot, int[] row, int from, int size) {
            if (!hasSlot(slot) || sizes[slot] != size) {
                return false;
            }
            for (int i = 0; i < size; i++) {
                if (cells[slot * Form.BLOCK_ROOM + i] != row[from + i]) {
                    return false;
                }
            }
            return true;
        }

        boolean hasSameBlock(int slot, Shelf other, int otherSlot) {
            return other.hasSlot(otherSlot)
                    && hasSameBytes(slot, other.cells, otherSlot * Form.BLOCK_ROOM, other.sizes[otherSlot]);
        }

        /** The slots behind this one move up by one, in their order. */
        void removeSlot(int slot) {
            if (!hasSlot(slot)) {
                return;
            }
            int behind = count - slot - 1;
            System.arraycopy(cells, (slot + 1) * Form.BLOCK_ROOM, cells, slot * Form.BLOCK_ROOM,
                    behind * Form.BLOCK_ROOM);
            System.arraycopy(sizes, slot + 1, sizes, slot, behind);
            System.arraycopy(names, slot + 1, names, slot, behind);
            count--;
        }

        void makeEmpty() {
            count = 0;
        }
    }

    /**
     * The four forms of a block. But for the leaf, all are two bytes and then parts of equal
     * width, each of which ends with its link.
     */
    private static final class Form {
        static final int LEAF = 0;
        static final int TREE = 1;
        static final int FOLDER = 2;
        static final int SHARD = 3;
        static final int CONTENT_MOST = 8;
        static final int PARTS_MOST = 4;
        static final int MASK_MOST = 15;
        static final int BLOCK_ROOM = 18;
        private static final int HEAD = 2;
        private static final int[] PART_WIDTHS = {0, 4, 3, 2};

        static boolean isBlock(Shelf shelf, int slot) {
            int size = shelf.sizeAt(slot);
            int kind = shelf.kindAt(slot);
            if (kind == LEAF) {
                return size <= 1 + CONTENT_MOST;
            }
            return kind > LEAF && kind <= SHARD && hasGoodSecond(kind, shelf.byteAt(slot, 1))
                    && size == HEAD + partCount(shelf, slot) * PART_WIDTHS[kind]
                    && hasGoodParts(shelf, slot, kind);
        }

        private static boolean hasGoodSecond(int kind, int second) {
            switch (kind) {
                case TREE:
                    return second >= 1 && second <= PARTS_MOST;
                case FOLDER:
                    return second >= 0 && second <= PARTS_MOST;
                default:
                    return second >= 1 && second <= MASK_MOST;
            }
        }

        private static boolean hasGoodParts(Shelf shelf, int slot, int kind) {
            for (int i = 0; i < partCount(shelf, slot); i++) {
                if (!isName(linkAt(shelf, slot, i))) {
                    return false;
                }
                if (kind == TREE && partSize(shelf, slot, i) < 1) {
                    return false;
                }
                int titleBefore = i == 0 ? 0 : partTitle(shelf, slot, i - 1);
                if (kind == FOLDER && partTitle(shelf, slot, i) <= titleBefore) {
                    return false;
                }
            }
            return true;
        }

        static boolean isFile(Shelf shelf, int slot) {
            int kind = shelf.kindAt(slot);
            return kind == LEAF || kind == TREE;
        }

        static boolean isFolderOrShard(Shelf shelf, int slot) {
            int kind = shelf.kindAt(slot);
            return kind == FOLDER || kind == SHARD;
        }

        static int partCount(Shelf shelf, int slot) {
            switch (shelf.kindAt(slot)) {
                case TREE:
                case FOLDER:
                    return shelf.byteAt(slot, 1);
                case SHARD:
                    return Integer.bitCount(shelf.byteAt(slot, 1));
                default:
                    return 0;
            }
        }

        static int linkAt(Shelf shelf, int slot, int i) {
            int kind = shelf.kindAt(slot);
            if (kind <= LEAF || kind > SHARD) {
                return NOTHING;
            }
            return shelf.pairAt(slot, HEAD + (i + 1) * PART_WIDTHS[kind] - 2);
        }

        static int partSize(Shelf shelf, int slot, int i) {
            return shelf.pairAt(slot, HEAD + i * PART_WIDTHS[TREE]);
        }

        static int partTitle(Shelf shelf, int slot, int i) {
            return shelf.byteAt(slot, HEAD + i * PART_WIDTHS[FOLDER]);
        }

        static int lengthAt(Shelf shelf, int slot) {
            if (!isFile(shelf, slot)) {
                return NOTHING;
            }
            if (shelf.kindAt(slot) == LEAF) {
                return shelf.sizeAt(slot) - 1;
            }
            int sum = 0;
            for (int i = 0; i < partCount(shelf, slot); i++) {
                sum += partSize(shelf, slot, i);
            }
            return sum;
        }

        /** Which two bits of a title's number choose the way in a shard, s links down. */
        static int wayOf(int title, int s) {
            return (((37 * title) & 255) >> (2 * s)) & 3;
        }
    }

    /** The ways down from a block: to a byte of a file, and to a title of a folder. */
    private static final class Path {
        private static final int FILE_LINKS_MOST = 10;
        private static final int SHARDS_MOST = 4;

        static int readByte(Shelf shelf, int name, int p) {
            int slot = shelf.slotOf(name);
            int rest = p;
            if (rest < 0 || rest >= Form.lengthAt(shelf, slot)) {
                return NOTHING;
            }
            for (int followed = 0; followed <= FILE_LINKS_MOST; followed++) {
                if (shelf.kindAt(slot) == Form.LEAF) {
                    return shelf.byteAt(slot, 1 + rest);
                }
                int part = 0;
                while (part < Form.partCount(shelf, slot) - 1 && rest >= Form.partSize(shelf, slot, part)) {
                    rest -= Form.partSize(shelf, slot, part);
                    part++;
                }
                int size = Form.partSize(shelf, slot, part);
                slot = shelf.slotOf(Form.linkAt(shelf, slot, part));
                if (Form.lengthAt(shelf, slot) != size) {
                    return BROKEN;
                }
            }
            return BROKEN;
        }

        static int findTitle(Shelf shelf, int name, int title) {
            int slot = shelf.slotOf(name);
            if (!Form.isFolderOrShard(shelf, slot)) {
                return NOTHING;
            }
            for (int s = 0; s < SHARDS_MOST && shelf.kindAt(slot) == Form.SHARD; s++) {
                int mask = shelf.byteAt(slot, 1);
                int way = Form.wayOf(title, s);
                if (((mask >> way) & 1) == 0) {
                    return NOTHING;
                }
                int linksBefore = Integer.bitCount(mask & ((1 << way) - 1));
                slot = shelf.slotOf(Form.linkAt(shelf, slot, linksBefore));
            }
            return shelf.kindAt(slot) == Form.FOLDER ? linkOfTitle(shelf, slot, title) : BROKEN;
        }

        private static int linkOfTitle(Shelf shelf, int slot, int title) {
            for (int i = 0; i < Form.partCount(shelf, slot); i++) {
                if (Form.partTitle(shelf, slot, i) == title) {
                    return Form.linkAt(shelf, slot, i);
                }
            }
            return NOTHING;
        }
    }

    /** Blocks that are to come into a store together or not at all, no two with one name. */
    private static final class Batch {
        private final Shelf made;
        private final int[] draft;
        private int drafted;
        private boolean clash;

        Batch() {
            made = new Shelf(STORE_ROOM);
            draft = new int[Form.BLOCK_ROOM];
            drafted = 0;
            clash = false;
        }

        void restart() {
            made.makeEmpty();
            drafted = 0;
            clash = false;
        }

        Shelf made() {
            return made;
        }

        /** Two blocks with one name and not the same bytes were made. */
        boolean hasClash() {
            return clash;
        }

        void write(int b) {
            if (drafted < Form.BLOCK_ROOM) {
                draft[drafted] = b;
                drafted++;
            }
        }

        void writePair(int number) {
            write(number & 255);
            write(number >> 8);
        }

        int finishBlock() {
            int name = nameOf(draft, 0, drafted);
            int slot = made.slotOf(name);
            if (slot < 0) {
                made.append(name, draft, 0, drafted);
            } else if (!made.hasSameBytes(slot, draft, 0, drafted)) {
                clash = true;
            }
            drafted = 0;
            return name;
        }

        void takeCopy(Shelf other, int slot) {
            made.appendCopy(other, slot);
        }
    }

    /** Cuts bytes into leaves and ties them up in trees. */
    private static final class FileMaker {
        private final int[] names;
        private final int[] lengths;
        private int count;

        FileMaker() {
            names = new int[BUFFER_ROOM];
            lengths = new int[BUFFER_ROOM];
            count = 0;
        }

        int makeFile(int[] row, int size, int chunk, int fan, Batch batch) {
            makeLeaves(row, size, chunk, batch);
            for (int level = 0; level < BUFFER_ROOM && count > 1; level++) {
                makeTrees(fan, batch);
            }
            return names[0];
        }

        private void makeLeaves(int[] row, int size, int chunk, Batch batch) {
            count = 0;
            int start = 0;
            do {
                int end = chunk == 0 ? endByContent(row, size, start) : Math.min(size, start + chunk);
                batch.write(Form.LEAF);
                for (int i = start; i < end; i++) {
                    batch.write(row[i]);
                }
                names[count] = batch.finishBlock();
                lengths[count] = end - start;
                count++;
                start = end;
            } while (start < size && count < BUFFER_ROOM);
        }

        private static int endByContent(int[] row, int size, int start) {
            int most = Math.min(size, start + Form.CONTENT_MOST);
            for (int end = start + 2; end < most; end++) {
                if ((row[end - 1] + 3 * row[end - 2]) % 5 == 0) {
                    return end;
                }
            }
            return most;
        }

        /** The trees take the places of what they link, which lie before what is still to do. */
        private void makeTrees(int fan, Batch batch) {
            int trees = 0;
            for (int first = 0; first < count && trees < BUFFER_ROOM; first += fan) {
                int end = Math.min(count, first + fan);
                int sum = 0;
                batch.write(Form.TREE);
                batch.write(end - first);
                for (int i = first; i < end; i++) {
                    batch.writePair(lengths[i]);
                    batch.writePair(names[i]);
                    sum += lengths[i];
                }
                names[trees] = batch.finishBlock();
                lengths[trees] = sum;
                trees++;
            }
            count = trees;
        }
    }

    /** The list of titles, in rising order; sets of them are masks over their places. */
    private static final class TitleList {
        private static final int ROOM = 16;
        private static final int WAYS = 4;
        private static final int SHARD_LEVELS = 4;

        private final int[] titles;
        private final int[] names;
        private int count;
        /** The links of the shards that are being made, those of level s from place 4 s on. */
        private final int[] shardLinks;

        TitleList() {
            titles = new int[ROOM];
            names = new int[ROOM];
            count = 0;
            shardLinks = new int[WAYS * SHARD_LEVELS];
        }

        void makeEmpty() {
            count = 0;
        }

        boolean enter(int title, int name) {
            int place = 0;
            while (place < count && titles[place] < title) {
                place++;
            }
            if (place >= count || titles[place] != title) {
                if (count >= ROOM) {
                    return false;
                }
                System.arraycopy(titles, place, titles, place + 1, count - place);
                System.arraycopy(names, place, names, place + 1, count - place);
                count++;
            }
            titles[place] = title;
            names[place] = name;
            return true;
        }

        int makeFolder(Batch batch) {
            return makeLevel((1 << count) - 1, 0, batch);
        }

        private int makeLevel(int members, int s, Batch batch) {
            if (Integer.bitCount(members) <= Form.PARTS_MOST || s >= SHARD_LEVELS) {
                return makeOneFolder(members, batch);
            }
            int mask = 0;
            for (int way = 0; way < WAYS; way++) {
                int part = membersOnWay(members, s, way);
                if (part != 0) {
                    mask |= 1 << way;
                    shardLinks[WAYS * s + way] = makeLevel(part, s + 1, batch);
                }
            }
            return makeShard(mask, s, batch);
        }

        private int membersOnWay(int members, int s, int way) {
            int part = 0;
            for (int i = 0; i < count; i++) {
                if (((members >> i) & 1) == 1 && Form.wayOf(titles[i], s) == way) {
                    part |= 1 << i;
                }
            }
            return part;
        }

        private int makeOneFolder(int members, Batch batch) {
            batch.write(Form.FOLDER);
            batch.write(Integer.bitCount(members));
            for (int i = 0; i < count; i++) {
                if (((members >> i) & 1) == 1) {
                    batch.write(titles[i]);
                    batch.writePair(names[i]);
                }
            }
            return batch.finishBlock();
        }

        private int makeShard(int mask, int s, Batch batch) {
            batch.write(Form.SHARD);
            batch.write(mask);
            for (int way = 0; way < WAYS; way++) {
                if (((mask >> way) & 1) == 1) {
                    batch.writePair(shardLinks[WAYS * s + way]);
                }
            }
            return batch.finishBlock();
        }
    }

    /** What is under names on a shelf: the slots that are reached and the names that are missing. */
    private static final class Walk {
        private static final int LINKS_MOST = STORE_ROOM * Form.PARTS_MOST;

        private final boolean[] reached;
        private final int[] missing;
        private int missingCount;
        private final int[] toVisit;
        private int toVisitCount;

        Walk() {
            reached = new boolean[STORE_ROOM];
            missing = new int[LINKS_MOST + 1];
            missingCount = 0;
            toVisit = new int[LINKS_MOST + 1];
            toVisitCount = 0;
        }

        void restart() {
            for (int slot = 0; slot < STORE_ROOM; slot++) {
                reached[slot] = false;
            }
            missingCount = 0;
        }

        int missingCount() {
            return missingCount;
        }

        int missingAt(int i) {
            return i >= 0 && i < missingCount ? missing[i] : NOTHING;
        }

        boolean misses(int name) {
            for (int i = 0; i < missingCount; i++) {
                if (missing[i] == name) {
                    return true;
                }
            }
            return false;
        }

        boolean hasReached(int slot) {
            return slot >= 0 && slot < STORE_ROOM && reached[slot];
        }

        void reachSlot(int slot) {
            if (slot >= 0 && slot < STORE_ROOM) {
                reached[slot] = true;
            }
        }

        void goUnder(Shelf shelf, int root) {
            toVisitCount = 0;
            remember(root);
            // Each block is opened once, so no more names than this are ever remembered.
            for (int step = 0; step <= LINKS_MOST && toVisitCount > 0; step++) {
                toVisitCount--;
                visit(shelf, toVisit[toVisitCount]);
            }
        }

        private void visit(Shelf shelf, int name) {
            int slot = shelf.slotOf(name);
            if (slot < 0) {
                noteMissing(name);
            } else if (!hasReached(slot)) {
                reachSlot(slot);
                // Last link first: what is remembered last is visited next.
                for (int i = Form.partCount(shelf, slot) - 1; i >= 0; i--) {
                    remember(Form.linkAt(shelf, slot, i));
                }
            }
        }

        private void remember(int name) {
            if (toVisitCount <= LINKS_MOST) {
                toVisit[toVisitCount] = name;
                toVisitCount++;
            }
        }

        private void noteMissing(int name) {
            if (missingCount <= LINKS_MOST && !misses(name)) {
                missing[missingCount] = name;
                missingCount++;
            }
        }
    }

    /** Names that are pinned, each deep or not; one name may be pinned in both ways. */
    private static final class Pins {
        private static final int ROOM = 8;

        private final int[] names;
        private final boolean[] deeps;
        private int count;

        Pins() {
            names = new int[ROOM];
            deeps = new boolean[ROOM];
            count = 0;
        }

        private int placeOf(int name, boolean deep) {
            for (int i = 0; i < count; i++) {
                if (names[i] == name && deeps[i] == deep) {
                    return i;
                }
            }
            return NOTHING;
        }

        boolean insert(int name, boolean deep) {
            if (count >= ROOM || placeOf(name, deep) >= 0) {
                return false;
            }
            names[count] = name;
            deeps[count] = deep;
            count++;
            return true;
        }

        boolean remove(int name, boolean deep) {
            int place = placeOf(name, deep);
            if (place < 0) {
                return false;
            }
            count--;
            names[place] = names[count];
            deeps[place] = deeps[count];
            return true;
        }

        void reachUnderDeep(Shelf shelf, Walk walk) {
            for (int i = 0; i < count; i++) {
                if (deeps[i]) {
                    walk.goUnder(shelf, names[i]);
                }
            }
        }

        void reachPinned(Shelf shelf, Walk walk) {
            for (int i = 0; i < count; i++) {
                walk.reachSlot(shelf.slotOf(names[i]));
            }
        }
    }

    /** The blocks of one store, with its pins and its fetch. */
    private static final class Store {
        private static final int NO_FETCH = 0;
        private static final int RUNNING = 1;
        private static final int DONE = 2;
        private static final int FAILED = 3;

        private final Shelf shelf;
        private final Pins pins;
        private int fetchState;
        private int fetchPeer;
        private int fetchRoot;

        Store() {
            shelf = new Shelf(STORE_ROOM);
            pins = new Pins();
            fetchState = NO_FETCH;
            fetchPeer = 0;
            fetchRoot = 0;
        }

        Shelf shelf() {
            return shelf;
        }

        /** All blocks of the batch come in, or none: FINE, COLLISION or NO_ROOM. */
        int takeBatch(Batch batch) {
            Shelf made = batch.made();
            int fresh = 0;
            boolean collides = batch.hasClash();
            for (int i = 0; i < made.count(); i++) {
                int slot = shelf.slotOf(made.nameAt(i));
                if (slot < 0) {
                    fresh++;
                } else if (!shelf.hasSameBlock(slot, made, i)) {
                    collides = true;
                }
            }
            if (collides) {
                return COLLISION;
            }
            if (shelf.count() + fresh > STORE_ROOM) {
                return NO_ROOM;
            }
            for (int i = 0; i < made.count(); i++) {
                if (shelf.slotOf(made.nameAt(i)) < 0) {
                    shelf.appendCopy(made, i);
                }
            }
            return FINE;
        }

        boolean pinBlock(int name, boolean deep) {
            return shelf.slotOf(name) >= 0 && pins.insert(name, deep);
        }

        boolean unpinBlock(int name, boolean deep) {
            return pins.remove(name, deep);
        }

        /** Takes away what is not kept: how many blocks that was. */
        int sweep(Walk walk) {
            walk.restart();
            pins.reachUnderDeep(shelf, walk);
            if (isFetching()) {
                walk.goUnder(shelf, fetchRoot);
            }
            // After the walks, which would not go on below a block that is reached already.
            pins.reachPinned(shelf, walk);
            int gone = 0;
            for (int slot = shelf.count() - 1; slot >= 0; slot--) {
                if (!walk.hasReached(slot)) {
                    shelf.removeSlot(slot);
                    gone++;
                }
            }
            return gone;
        }

        int fetchState() {
            return fetchState;
        }

        int fetchPeer() {
            return fetchPeer;
        }

        boolean isFetching() {
            return fetchState == RUNNING;
        }

        boolean isFetchingFrom(int peer) {
            return fetchState == RUNNING && fetchPeer == peer;
        }

        /** A walk has to follow, which tells whether the fetch is done at once. */
        void startFetch(int peer, int root) {
            fetchState = RUNNING;
            fetchPeer = peer;
            fetchRoot = root;
        }

        void failFetch() {
            fetchState = FAILED;
        }

        /** Looks what the fetch misses; a running one that misses nothing is done. */
        void walkFetch(Walk walk) {
            walk.restart();
            walk.goUnder(shelf, fetchRoot);
            if (fetchState == RUNNING && walk.missingCount() == 0) {
                fetchState = DONE;
            }
        }
    }

    /** The messages that wait, in the order in which they were sent. */
    private static final class Line {
        static final int WANT = 0;
        static final int GIVE = 1;
        static final int NONE = 2;
        private static final int ROOM = 24;

        /** The bytes of the GIVEs; the others have a name and no bytes. */
        private final Shelf rows;
        private final int[] kinds;
        private final int[] senders;
        private final int[] receivers;

        Line() {
            rows = new Shelf(ROOM);
            kinds = new int[ROOM];
            senders = new int[ROOM];
            receivers = new int[ROOM];
        }

        Shelf rows() {
            return rows;
        }

        int count() {
            return rows.count();
        }

        boolean has(int k) {
            return rows.hasSlot(k);
        }

        int kindAt(int k) {
            return has(k) ? kinds[k] : NOTHING;
        }

        int senderAt(int k) {
            return has(k) ? senders[k] : NOTHING;
        }

        int receiverAt(int k) {
            return has(k) ? receivers[k] : NOTHING;
        }

        int nameAt(int k) {
            return rows.nameAt(k);
        }

        void sendName(int kind, int sender, int receiver, int name) {
            if (!rows.isFull()) {
                writeHead(kind, sender, receiver);
                rows.appendName(name);
            }
        }

        void sendBlock(int sender, int receiver, Shelf shelf, int slot) {
            if (!rows.isFull()) {
                writeHead(GIVE, sender, receiver);
                rows.appendCopy(shelf, slot);
            }
        }

        private void writeHead(int kind, int sender, int receiver) {
            int k = rows.count();
            kinds[k] = kind;
            senders[k] = sender;
            receivers[k] = receiver;
        }

        void lose(int k) {
            if (!has(k)) {
                return;
            }
            int behind = rows.count() - k - 1;
            System.arraycopy(kinds, k + 1, kinds, k, behind);
            System.arraycopy(senders, k + 1, senders, k, behind);
            System.arraycopy(receivers, k + 1, receivers, k, behind);
            rows.removeSlot(k);
        }

        boolean damage(int k, int i, int x) {
            // Of all messages only a GIVE has bytes.
            int old = rows.byteAt(k, i);
            if (old == NOTHING) {
                return false;
            }
            rows.changeByte(k, i, old ^ (x & BYTE_MOST));
            return true;
        }
    }
}

import java.util.ArrayList;
import java.util.Collections;
import java.util.HashSet;
import java.util.LinkedHashSet;
import java.util.List;
import java.util.Map;
import java.util.Set;
import java.util.TreeMap;
import java.util.TreeSet;

/** The document a second time, with the Java library and without regard to cost: for comparing. */
final class Model {
    private static final class Message {
        int kind;
        int from;
        int to;
        int name;
        List<Integer> row = List.of();

        int shownName() {
            return kind == 1 ? hash(row) : name;
        }
    }

    private static final class Store {
        final Map<Integer, List<Integer>> blocks = new TreeMap<>();
        final Set<Integer> shallow = new TreeSet<>();
        final Set<Integer> deep = new TreeSet<>();
        int state = 0;
        int root = -1;
        int peer = -1;

        void under(int name, Set<Integer> seen) {
            if (seen.add(name) && blocks.containsKey(name)) {
                for (int link : links(blocks.get(name))) {
                    under(link, seen);
                }
            }
        }

        List<Integer> missing() {
            Set<Integer> all = new LinkedHashSet<>();
            under(root, all);
            all.removeAll(blocks.keySet());
            return new ArrayList<>(all);
        }

        void look() {
            if (state == 1 && missing().isEmpty()) {
                state = 2;
            }
        }
    }

    private List<Integer> buffer = new ArrayList<>();
    private final TreeMap<Integer, Integer> list = new TreeMap<>();
    private final List<Store> stores = List.of(new Store(), new Store(), new Store());
    private final List<Message> line = new ArrayList<>();

    /** Names that have come up, for the driver to choose from. */
    List<Integer> namesOf(int store) {
        return new ArrayList<>(stores.get(store).blocks.keySet());
    }

    List<Integer> missingOf(int store) {
        return stores.get(store).root < 0 ? List.of() : stores.get(store).missing();
    }

    static int hash(List<Integer> row) {
        int h = 40503;
        for (int b : row) {
            h = Math.floorMod(263 * h + b + 1, 65521);
        }
        return h;
    }

    private static int two(List<Integer> row, int at) {
        return row.get(at) | row.get(at + 1) << 8;
    }

    private static void addTwo(List<Integer> row, int number) {
        row.add(number % 256);
        row.add(number / 256);
    }

    static List<Integer> links(List<Integer> row) {
        List<Integer> links = new ArrayList<>();
        int kind = row.get(0);
        int first = kind == 1 ? 4 : kind == 2 ? 3 : 2;
        int step = kind == 1 ? 4 : kind == 2 ? 3 : 2;
        for (int at = first; kind != 0 && at < row.size(); at += step) {
            links.add(two(row, at));
        }
        return links;
    }

    static boolean isBlock(List<Integer> row) {
        if (row.isEmpty() || row.get(0) > 3) {
            return false;
        }
        if (row.get(0) == 0) {
            return row.size() < 10;
        }
        if (row.size() < 2) {
            return false;
        }
        int second = row.get(1);
        boolean good;
        if (row.get(0) == 1) {
            good = second > 0 && second < 5 && row.size() == 2 + 4 * second;
            for (int i = 0; good && i < second; i++) {
                good = two(row, 2 + 4 * i) != 0;
            }
        } else if (row.get(0) == 2) {
            good = second < 5 && row.size() == 2 + 3 * second;
            for (int i = 0; good && i < second; i++) {
                good = row.get(2 + 3 * i) > (i == 0 ? 0 : row.get(3 * i - 1));
            }
        } else {
            int ones = (second & 1) + (second >> 1 & 1) + (second >> 2 & 1) + (second >> 3 & 1);
            good = second > 0 && second < 16 && row.size() == 2 + 2 * ones;
        }
        return good && links(row).stream().allMatch(link -> link <= 65520);
    }

    private static boolean isStore(int store) {
        return store == 0 || store == 1 || store == 2;
    }

    private List<Integer> block(int store, int name) {
        return isStore(store) ? stores.get(store).blocks.get(name) : null;
    }

    boolean type(int b) {
        if (b != (b & 255) || buffer.size() == 32) {
            return false;
        }
        buffer.add(b);
        return true;
    }

    void clear() {
        buffer = new ArrayList<>();
        list.clear();
    }

    int name() {
        return hash(buffer);
    }

    /** All of them or none; the last one is the one whose name is the answer. */
    private int comeIn(int store, List<List<Integer>> rows) {
        Map<Integer, List<Integer>> together = new TreeMap<>(stores.get(store).blocks);
        for (List<Integer> row : rows) {
            List<Integer> there = together.putIfAbsent(hash(row), row);
            if (there != null && !there.equals(row)) {
                return -2;
            }
        }
        if (together.size() > 64) {
            return -3;
        }
        stores.get(store).blocks.putAll(together);
        stores.get(store).look();
        return hash(rows.get(rows.size() - 1));
    }

    int put(int store) {
        if (!isStore(store) || !isBlock(buffer)) {
            return -1;
        }
        int answer = comeIn(store, List.of(buffer));
        if (answer >= 0) {
            buffer = new ArrayList<>();
        }
        return answer;
    }

    private List<List<Integer>> pieces(int chunk) {
        List<List<Integer>> pieces = new ArrayList<>();
        List<Integer> piece = new ArrayList<>();
        for (int b : buffer) {
            piece.add(b);
            int n = piece.size();
            boolean cut = chunk > 0 ? n == chunk : n == 8 || n > 1 && (b + 3 * piece.get(n - 2)) % 5 == 0;
            if (cut) {
                pieces.add(piece);
                piece = new ArrayList<>();
            }
        }
        if (!piece.isEmpty() || pieces.isEmpty()) {
            pieces.add(piece);
        }
        return pieces;
    }

    private static int fileLength(List<Integer> row) {
        if (row == null || row.get(0) > 1) {
            return -1;
        }
        int sum = row.get(0) == 0 ? row.size() - 1 : 0;
        for (int at = 2; row.get(0) == 1 && at < row.size(); at += 4) {
            sum += two(row, at);
        }
        return sum;
    }

    int add(int store, int chunk, int fan) {
        if (!isStore(store) || chunk < 0 || chunk > 8 || fan < 2 || fan > 4) {
            return -1;
        }
        List<List<Integer>> level = new ArrayList<>();
        for (List<Integer> piece : pieces(chunk)) {
            List<Integer> row = new ArrayList<>(List.of(0));
            row.addAll(piece);
            level.add(row);
        }
        List<List<Integer>> all = new ArrayList<>(level);
        while (level.size() > 1) {
            List<List<Integer>> next = new ArrayList<>();
            for (int at = 0; at < level.size(); at += fan) {
                List<List<Integer>> group = level.subList(at, Math.min(level.size(), at + fan));
                List<Integer> row = new ArrayList<>(List.of(1, group.size()));
                for (List<Integer> member : group) {
                    addTwo(row, fileLength(member));
                    addTwo(row, hash(member));
                }
                next.add(row);
            }
            all.addAll(next);
            level = next;
        }
        int answer = comeIn(store, all);
        if (answer >= 0) {
            buffer = new ArrayList<>();
        }
        return answer;
    }

    boolean entry(int title, int name) {
        boolean fits = list.size() < 16 || list.containsKey(title);
        if (title < 1 || title > 255 || name < 0 || name > 65520 || !fits) {
            return false;
        }
        list.put(title, name);
        return true;
    }

    private static int way(int title, int s) {
        return (int) Math.floorMod(37L * title, 256L) / (1 << 2 * s) % 4;
    }

    private static List<Integer> makeFolder(TreeMap<Integer, Integer> titles, int s, List<List<Integer>> all) {
        List<Integer> row;
        if (titles.size() <= 4) {
            row = new ArrayList<>(List.of(2, titles.size()));
            for (Map.Entry<Integer, Integer> each : titles.entrySet()) {
                row.add(each.getKey());
                addTwo(row, each.getValue());
            }
        } else {
            row = new ArrayList<>(List.of(3, 0));
            for (int b = 0; b < 4; b++) {
                TreeMap<Integer, Integer> part = new TreeMap<>(titles);
                int wanted = b;
                part.keySet().removeIf(title -> way(title, s) != wanted);
                if (!part.isEmpty()) {
                    row.set(1, row.get(1) + (1 << b));
                    addTwo(row, hash(makeFolder(part, s + 1, all)));
                }
            }
        }
        all.add(row);
        return row;
    }

    int folder(int store) {
        if (!isStore(store)) {
            return -1;
        }
        List<List<Integer>> all = new ArrayList<>();
        makeFolder(list, 0, all);
        int answer = comeIn(store, all);
        if (answer >= 0) {
            list.clear();
        }
        return answer;
    }

    int bytes(int store, int name) {
        return block(store, name) == null ? -1 : block(store, name).size();
    }

    int raw(int store, int name, int i) {
        List<Integer> row = block(store, name);
        return row == null || i < 0 || i >= row.size() ? -1 : row.get(i);
    }

    int length(int store, int name) {
        return fileLength(block(store, name));
    }

    int read(int store, int name, int p) {
        List<Integer> row = block(store, name);
        return p < 0 || p >= fileLength(row) ? -1 : readDown(store, row, p, 0);
    }

    private int readDown(int store, List<Integer> row, int p, int followed) {
        if (row.get(0) == 0) {
            return row.get(1 + p);
        }
        int passed = 0;
        int at = 2;
        while (passed + two(row, at) <= p) {
            passed += two(row, at);
            at += 4;
        }
        List<Integer> next = block(store, two(row, at + 2));
        if (followed == 10 || fileLength(next) != two(row, at)) {
            return -2;
        }
        return readDown(store, next, p - passed, followed + 1);
    }

    int find(int store, int name, int title) {
        List<Integer> row = block(store, name);
        return row == null || row.get(0) < 2 ? -1 : findDown(store, row, title, 0);
    }

    private int findDown(int store, List<Integer> row, int title, int s) {
        if (row == null || row.get(0) < 2 || row.get(0) == 3 && s == 4) {
            return -2;
        }
        if (row.get(0) == 2) {
            for (int at = 2; at < row.size(); at += 3) {
                if (row.get(at) == title) {
                    return two(row, at + 1);
                }
            }
            return -1;
        }
        int at = 2;
        for (int b = 0; b < 4; b++) {
            boolean on = row.get(1) / (1 << b) % 2 == 1;
            if (b == way(title, s)) {
                return on ? findDown(store, block(store, two(row, at)), title, s + 1) : -1;
            }
            at += on ? 2 : 0;
        }
        throw new IllegalStateException();
    }

    boolean pin(int store, int name, boolean deep, boolean on) {
        if (!isStore(store)) {
            return false;
        }
        Store s = stores.get(store);
        Set<Integer> pins = deep ? s.deep : s.shallow;
        if (!on) {
            return pins.remove(name);
        }
        return s.blocks.containsKey(name) && s.deep.size() + s.shallow.size() < 8 && pins.add(name);
    }

    int collect(int store) {
        if (!isStore(store)) {
            return -1;
        }
        Store s = stores.get(store);
        Set<Integer> kept = new HashSet<>(s.shallow);
        for (int name : s.deep) {
            Set<Integer> under = new HashSet<>();
            s.under(name, under);
            kept.addAll(under);
        }
        if (s.state == 1) {
            Set<Integer> under = new HashSet<>();
            s.under(s.root, under);
            kept.addAll(under);
        }
        int had = s.blocks.size();
        s.blocks.keySet().retainAll(kept);
        return had - s.blocks.size();
    }

    int blocks(int store) {
        return isStore(store) ? stores.get(store).blocks.size() : -1;
    }

    private void send(int kind, int from, int to, int name, List<Integer> row) {
        if (line.size() < 24) {
            Message message = new Message();
            message.kind = kind;
            message.from = from;
            message.to = to;
            message.name = name;
            message.row = new ArrayList<>(row);
            line.add(message);
        }
    }

    private void wantAll(int store, List<Integer> names) {
        for (int name : names) {
            send(0, store, stores.get(store).peer, name, List.of());
        }
    }

    int fetch(int store, int peer, int name) {
        if (!isStore(store) || !isStore(peer) || store == peer || name < 0 || name > 65520) {
            return -1;
        }
        Store s = stores.get(store);
        s.state = 1;
        s.root = name;
        s.peer = peer;
        List<Integer> missing = s.missing();
        wantAll(store, missing);
        s.look();
        return missing.size();
    }

    int retry(int store) {
        if (!isStore(store) || stores.get(store).state != 1) {
            return -1;
        }
        List<Integer> missing = stores.get(store).missing();
        wantAll(store, missing);
        return missing.size();
    }

    int deliver(int k) {
        if (k < 0 || k >= line.size()) {
            return -1;
        }
        Message message = line.remove(k);
        Store s = stores.get(message.to);
        if (message.kind == 0) {
            List<Integer> row = s.blocks.get(message.name);
            send(row == null ? 2 : 1, message.to, message.from, message.name, row == null ? List.of() : row);
            return 0;
        }
        boolean heard = s.state == 1 && s.peer == message.from && s.missing().contains(message.shownName());
        if (message.kind == 2) {
            s.state = heard ? 3 : s.state;
            return 2;
        }
        if (heard && isBlock(message.row)) {
            List<Integer> before = s.missing();
            if (s.blocks.size() == 64) {
                s.state = 3;
            } else {
                s.blocks.put(hash(message.row), message.row);
                List<Integer> after = s.missing();
                after.removeAll(before);
                wantAll(message.to, after);
                s.look();
            }
        }
        return 1;
    }

    boolean harm(int k, int i, int x) {
        if (k < 0 || k >= line.size()) {
            return false;
        }
        if (x == 0) {
            line.remove(k);
            return true;
        }
        List<Integer> row = line.get(k).row;
        if (line.get(k).kind != 1 || i < 0 || i >= row.size()) {
            return false;
        }
        row.set(i, row.get(i) ^ Math.floorMod(x, 256));
        return true;
    }

    int message(int k, int what) {
        if (k < 0 || k >= line.size() || what < 0 || what > 3) {
            return -1;
        }
        Message message = line.get(k);
        return List.of(message.kind, message.from, message.to, message.shownName()).get(what);
    }

    int waiting() {
        return line.size();
    }

    int state(int store) {
        return isStore(store) ? stores.get(store).state : -1;
    }

    List<Integer> titles() {
        return Collections.unmodifiableList(new ArrayList<>(list.keySet()));
    }
}

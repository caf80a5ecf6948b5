import java.util.ArrayList;
import java.util.List;
import java.util.Random;

/** Runs of 512 calls by chance, with fixed seeds: each answer must be the one of the model. */
public final class ModelTest {
    private static final int RUNS = 4000;
    private static final int CALLS = 512;
    private static final int LOOKS = 100;
    /** No look makes more calls than this. */
    private static final int LOOK_MOST = 8;
    private static final int[] EDGES = {-1, 0, 1, 2, 3, 4, 5, 8, 9, 10, 15, 16, 23, 24, 31, 32, 63, 64, 255, 256,
        65520, 65521, Integer.MIN_VALUE, Integer.MAX_VALUE};
    /** Leaves that have a name in common, by twos. */
    private static final int[][] TWINS = twins();

    private final Random random;
    private final BlockExchange x = new BlockExchange();
    private final Model model = new Model();
    private final StringBuilder log = new StringBuilder();
    private final List<Integer> known = new ArrayList<>();
    /** What this run likes to do: odd actions come often. */
    private final int[] weights = new int[12];
    private int calls = 0;
    private boolean wrong = false;

    private ModelTest(long seed) {
        random = new Random(seed);
        for (int i = 0; i < weights.length; i++) {
            weights[i] = random.nextInt(3) == 0 ? 8 : random.nextInt(3);
        }
    }

    public static void main(String[] args) {
        int runs = args.length > 0 ? Integer.parseInt(args[0]) : RUNS;
        long first = args.length > 1 ? Long.parseLong(args[1]) : 1;
        int wrongRuns = 0;
        for (long seed = first; seed < first + runs && wrongRuns < 3; seed++) {
            ModelTest run = new ModelTest(seed);
            run.go();
            if (run.wrong) {
                wrongRuns++;
                System.out.println("seed " + seed + ":\n" + run.log);
            }
        }
        System.out.println(wrongRuns == 0 ? runs + " runs are as due" : "runs are not as due");
        if (wrongRuns != 0) {
            System.exit(1);
        }
    }

    private static int[][] twins() {
        int[][] twins = new int[20][];
        for (int i = 0; i < twins.length; i += 2) {
            twins[i] = i < 10 ? new int[] {0, i} : new int[] {0, 1, i};
            twins[i + 1] = Check.twinLeaf(twins[i]);
        }
        return twins;
    }

    private void go() {
        while (calls < CALLS - LOOKS && !wrong) {
            act(choose());
        }
        while (calls < CALLS - LOOK_MOST && !wrong) {
            lookSomewhere();
        }
    }

    private int choose() {
        int sum = 0;
        for (int weight : weights) {
            sum += weight;
        }
        int at = sum == 0 ? 0 : random.nextInt(sum);
        for (int i = 0; i < weights.length; i++) {
            at -= weights[i];
            if (at < 0) {
                return i;
            }
        }
        return random.nextInt(weights.length);
    }

    private void act(int action) {
        switch (action) {
            case 0: wildCall(); break;
            case 1: putRow(goodBlock()); break;
            case 2: putRow(spoilt(goodBlock())); break;
            case 3: addFile(); break;
            case 4: makeFolder(); break;
            case 5: startFetch(); break;
            case 6: deliverSome(); break;
            case 7: harmSome(); break;
            case 8: pinSome(); break;
            case 9: lookSomewhere(); break;
            case 10: putRow(TWINS[random.nextInt(TWINS.length)]); break;
            default: serve(); break;
        }
    }

    private void due(String call, int got, int want) {
        calls++;
        log.append(call).append(" -> ").append(got).append('\n');
        if (got != want) {
            log.append("due is ").append(want).append('\n');
            wrong = true;
        }
    }

    private void due(String call, boolean got, boolean want) {
        due(call, got ? 1 : 0, want ? 1 : 0);
    }

    private int number(int bound) {
        return random.nextInt(12) == 0 ? EDGES[random.nextInt(EDGES.length)] : random.nextInt(bound);
    }

    private int store() {
        return random.nextInt(25) == 0 ? EDGES[random.nextInt(EDGES.length)] : random.nextInt(3);
    }

    private int someName() {
        switch (random.nextInt(8)) {
            case 0:
                return random.nextInt(6);
            case 1:
                return random.nextInt(65521);
            case 2:
                List<Integer> missing = model.missingOf(random.nextInt(3));
                return missing.isEmpty() ? 7 : missing.get(random.nextInt(missing.size()));
            case 3:
                List<Integer> there = model.namesOf(random.nextInt(3));
                return there.isEmpty() ? 8 : there.get(random.nextInt(there.size()));
            default:
                int back = Math.min(known.size(), random.nextInt(12) + 1);
                return back == 0 ? 9 : known.get(known.size() - back);
        }
    }

    private int nameThere(int store) {
        List<Integer> names = store >= 0 && store < 3 ? model.namesOf(store) : List.of();
        return names.isEmpty() || random.nextInt(8) == 0 ? someName() : names.get(random.nextInt(names.size()));
    }

    private int lengthOf(int name) {
        for (int store = 0; store < 3; store++) {
            if (model.length(store, name) > 0 && random.nextInt(10) > 0) {
                return model.length(store, name);
            }
        }
        return 1 + random.nextInt(9);
    }

    private int[] goodBlock() {
        int count = 1 + random.nextInt(4);
        int[] row = new int[0];
        switch (random.nextInt(4)) {
            case 0:
                for (int i = random.nextInt(4); i > 0; i--) {
                    row = Check.join(row, random.nextInt(3));
                }
                return Check.leaf(row);
            case 1:
                for (int i = 0; i < count; i++) {
                    int name = someName();
                    row = Check.join(row, lengthOf(name), name);
                }
                return row.length > 0 && lengthsAreSizes(row) ? Check.tree(row) : Check.leaf(1);
            case 2:
                int title = 0;
                for (int i = random.nextInt(5); i > 0; i--) {
                    title += 1 + random.nextInt(9);
                    row = Check.join(row, title, someName());
                }
                return Check.folder(row);
            default:
                int mask = random.nextInt(2) == 0 ? 15 : 1 + random.nextInt(15);
                for (int i = Integer.bitCount(mask); i > 0; i--) {
                    row = Check.join(row, someName());
                }
                return Check.shard(mask, row);
        }
    }

    private static boolean lengthsAreSizes(int[] sizesAndLinks) {
        for (int i = 0; i < sizesAndLinks.length; i += 2) {
            if (sizesAndLinks[i] > 65535) {
                return false;
            }
        }
        return true;
    }

    private int[] spoilt(int[] row) {
        int[] other = row.clone();
        switch (random.nextInt(3)) {
            case 0:
                other[random.nextInt(row.length)] = random.nextInt(256);
                return other;
            case 1:
                return java.util.Arrays.copyOf(row, random.nextInt(row.length));
            default:
                return Check.join(row, random.nextInt(256));
        }
    }

    private void type(int b) {
        due("type(" + b + ")", x.type(b), model.type(b));
    }

    private void putRow(int[] row) {
        if (random.nextInt(6) > 0) {
            x.clear();
            model.clear();
            due("clear()", 0, 0);
        }
        for (int b : row) {
            type(b);
        }
        put(random.nextInt(3));
        if (random.nextInt(4) == 0) {
            put(store());
        }
    }

    private void put(int store) {
        due("name()", x.name(), model.name());
        int name = model.put(store);
        due("put(" + store + ")", x.put(store), name);
        learn(name);
    }

    private void learn(int name) {
        if (name >= 0) {
            known.add(name);
        }
    }

    private void addFile() {
        int alphabet = random.nextInt(3) == 0 ? 256 : 1 + random.nextInt(6);
        for (int i = random.nextInt(4) == 0 ? 32 : random.nextInt(14); i > 0; i--) {
            type(random.nextInt(alphabet));
        }
        int store = store();
        int chunk = number(9);
        int fan = random.nextInt(10) == 0 ? number(6) : 2 + random.nextInt(3);
        int name = model.add(store, chunk, fan);
        due("add(" + store + ", " + chunk + ", " + fan + ")", x.add(store, chunk, fan), name);
        learn(name);
    }

    private void makeFolder() {
        int step = 1 << 2 * random.nextInt(3);
        for (int i = random.nextInt(18); i > 0; i--) {
            int title = random.nextInt(20) == 0 ? number(256) : step * (1 + random.nextInt(15)) + random.nextInt(2);
            int name = random.nextInt(20) == 0 ? number(65521) : someName();
            due("entry(" + title + ", " + name + ")", x.entry(title, name), model.entry(title, name));
        }
        int store = store();
        int name = model.folder(store);
        due("folder(" + store + ")", x.folder(store), name);
        learn(name);
    }

    private void startFetch() {
        int peer = store();
        int store = random.nextInt(15) == 0 ? store() : Math.floorMod(peer + 1 + random.nextInt(2), 3);
        int name = random.nextInt(20) == 0 ? number(65521) : nameThere(peer);
        due("fetch(" + store + ", " + peer + ", " + name + ")", x.fetch(store, peer, name),
                model.fetch(store, peer, name));
        lookAtLine();
    }

    private void deliverSome() {
        for (int i = random.nextInt(5); i >= 0; i--) {
            int k = random.nextInt(20) == 0 ? number(24) : random.nextInt(1 + model.waiting());
            due("deliver(" + k + ")", x.deliver(k), model.deliver(k));
            lookAtStates();
        }
        lookAtLine();
    }

    /** Delivers from the front, so that whole fetches come to their end. */
    private void serve() {
        for (int i = 0; i < 12 && model.waiting() > 0 && calls < CALLS - LOOKS; i++) {
            due("deliver(0)", x.deliver(0), model.deliver(0));
            lookAtStates();
        }
        int store = store();
        due("retry(" + store + ")", x.retry(store), model.retry(store));
        due("waiting()", x.waiting(), model.waiting());
    }

    private void harmSome() {
        int k = random.nextInt(20) == 0 ? number(24) : random.nextInt(1 + model.waiting());
        int i = random.nextInt(6) == 0 ? number(20) : random.nextInt(4);
        int by = random.nextInt(3) == 0 ? 0 : random.nextInt(6) == 0 ? random.nextInt() : 1 << random.nextInt(10);
        due("harm(" + k + ", " + i + ", " + by + ")", x.harm(k, i, by), model.harm(k, i, by));
        lookAtLine();
    }

    private void pinSome() {
        int store = store();
        int name = nameThere(store);
        boolean deep = random.nextBoolean();
        boolean on = random.nextInt(3) > 0;
        due("pin(" + store + ", " + name + ", " + deep + ", " + on + ")", x.pin(store, name, deep, on),
                model.pin(store, name, deep, on));
        if (random.nextInt(8) == 0) {
            due("collect(" + store + ")", x.collect(store), model.collect(store));
            lookAtStates();
        }
    }

    private void lookAtStates() {
        if (random.nextInt(3) == 0) {
            for (int store = 0; store < 3; store++) {
                due("state(" + store + ")", x.state(store), model.state(store));
                due("blocks(" + store + ")", x.blocks(store), model.blocks(store));
            }
        }
    }

    private void lookAtLine() {
        due("waiting()", x.waiting(), model.waiting());
        int k = random.nextInt(4) == 0 ? number(24) : Math.max(0, model.waiting() - 1 - random.nextInt(4));
        for (int what = 0; what < 4; what++) {
            due("message(" + k + ", " + what + ")", x.message(k, what), model.message(k, what));
        }
    }

    private void lookSomewhere() {
        int store = store();
        int name = nameThere(store);
        int i = number(20);
        switch (random.nextInt(7)) {
            case 0:
                due("bytes(" + store + ", " + name + ")", x.bytes(store, name), model.bytes(store, name));
                break;
            case 1:
                due("raw(" + store + ", " + name + ", " + i + ")", x.raw(store, name, i), model.raw(store, name, i));
                break;
            case 2:
                due("length(" + store + ", " + name + ")", x.length(store, name), model.length(store, name));
                break;
            case 3:
                int p = random.nextInt(6) == 0 ? number(33) : random.nextInt(1 + Math.max(0, model.length(store, name)));
                due("read(" + store + ", " + name + ", " + p + ")", x.read(store, name, p), model.read(store, name, p));
                break;
            case 4:
                int title = random.nextInt(3) == 0 ? number(256) : random.nextInt(20);
                due("find(" + store + ", " + name + ", " + title + ")", x.find(store, name, title),
                        model.find(store, name, title));
                break;
            case 5:
                lookAtStates();
                due("blocks(" + store + ")", x.blocks(store), model.blocks(store));
                due("state(" + store + ")", x.state(store), model.state(store));
                break;
            default:
                lookAtLine();
                break;
        }
    }

    private void wildCall() {
        int a = number(4);
        int b = number(256);
        int c = number(6);
        switch (random.nextInt(9)) {
            case 0: type(b); break;
            case 1: due("put(" + a + ")", x.put(a), model.put(a)); break;
            case 2: due("add(" + a + ", " + c + ", " + b % 7 + ")", x.add(a, c, b % 7), model.add(a, c, b % 7)); break;
            case 3: due("entry(" + b + ", " + c + ")", x.entry(b, c), model.entry(b, c)); break;
            case 4: due("collect(" + a + ")", x.collect(a), model.collect(a)); break;
            case 5: due("fetch(" + a + ", " + c + ", " + b + ")", x.fetch(a, c, b), model.fetch(a, c, b)); break;
            case 6: due("retry(" + a + ")", x.retry(a), model.retry(a)); break;
            case 7: due("deliver(" + a + ")", x.deliver(a), model.deliver(a)); break;
            default: due("harm(" + a + ", " + c + ", " + b + ")", x.harm(a, c, b), model.harm(a, c, b)); break;
        }
    }
}

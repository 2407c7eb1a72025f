import java.math.BigInteger;
import java.util.ArrayList;
import java.util.Arrays;
import java.util.LinkedHashMap;
import java.util.List;
import java.util.Map;
import java.util.Random;
import java.util.TreeMap;

/**
 * All promises at once: runs of random calls, 512 an object, each answer compared with that of a second
 * program written from the document in another way (a history of heights, maps, whole numbers without bounds).
 */
public final class ModelTest {
    private static final int OBJECTS = 3000;
    private static final int CALLS = 512;
    private static final int MOST_TOLD = 20;
    private static final int[] ODD = {Integer.MIN_VALUE, -1000, -3, -2, -1, 65, 101, 1001, 1024, Integer.MAX_VALUE};
    private static final long[] LONGS = {0, 1, -1, 2, -7, 3037000500L, 1L << 32, Long.MIN_VALUE, Long.MAX_VALUE};
    private static final String[] KINDS = {"edition", "price", "member", "about", "differs", "node", "build",
            "propose", "vote", "rise", "force", "halted", "contract", "act", "deploy", "run", "cell", "logged",
            "digest", "replay", "count"};

    private static final Map<String, Integer> seen = new TreeMap<>();

    public static void main(String[] args) {
        int wrong = 0;
        for (int seed = 0; seed < OBJECTS && wrong < MOST_TOLD; seed++) {
            wrong += playOne(new Random(seed), seed) ? 0 : 1;
        }
        if (wrong == 0) {
            everyAnswerWasSeen();
        }
        Due.end();
    }

    /** Ends at the first wrong answer: those behind it would mostly follow from it. */
    private static boolean playOne(Random random, int seed) {
        EngineVersions real = new EngineVersions();
        Model model = new Model();
        int[] odds = oddsOfKinds(random);
        int wild = random.nextInt(3) == 0 ? 20 : 3;
        int span = 1 + random.nextInt(12);
        int ahead = random.nextInt(3) == 0 ? 0 : putMembersInForce(real, model, random, seed);
        for (int i = ahead; i < CALLS; i++) {
            String kind = KINDS[pick(random, odds)];
            if (!callBoth(real, model, seed, kind, arguments(random, kind, wild, span, model))) {
                return false;
            }
        }
        return true;
    }

    private static boolean callBoth(EngineVersions real, Model model, int seed, String kind, long... a) {
        long got = callReal(real, kind, a);
        long want = callModel(model, kind, a);
        seen.merge(kind + " " + (want < 0 && want > -20 ? want : 0), 1, Integer::sum);
        return Due.is("seed " + seed + ": " + kind + Arrays.toString(a), got, want);
    }

    /** Without members in force from early on, hardly a contract that calls one would be deployed. */
    private static int putMembersInForce(EngineVersions real, Model model, Random random, int seed) {
        callBoth(real, model, seed, "edition", 0);
        for (int member = 0; member < 8; member++) {
            callBoth(real, model, seed, "member", 1, member, random.nextInt(6));
        }
        callBoth(real, model, seed, "propose", 1, 1);
        callBoth(real, model, seed, "rise", 1);
        return 11;
    }

    /** Each object has a taste of its own, so that logs, contracts and editions fill up in some. */
    private static int[] oddsOfKinds(Random random) {
        int[] odds = new int[KINDS.length];
        for (int i = 0; i < odds.length; i++) {
            odds[i] = 1 + random.nextInt(4);
        }
        more(odds, "member", random.nextInt(8));
        more(odds, "vote", random.nextInt(10));
        more(odds, "rise", random.nextInt(8) == 0 ? 20 : 0);
        more(odds, "act", random.nextInt(40));
        more(odds, "deploy", random.nextInt(8));
        more(odds, "run", random.nextInt(40));
        return odds;
    }

    private static void more(int[] odds, String kind, int by) {
        odds[Arrays.asList(KINDS).indexOf(kind)] += by;
    }

    private static int pick(Random random, int[] odds) {
        int rest = random.nextInt(Arrays.stream(odds).sum());
        int i = 0;
        while (rest >= odds[i]) {
            rest -= odds[i];
            i++;
        }
        return i;
    }

    private static long[] arguments(Random r, String kind, int wild, int span, Model m) {
        int editions = m.editions.size();
        int nodes = m.nodes.size() + 1;
        int runs = m.log.size() + 1;
        switch (kind) {
            case "edition": return new long[] {num(r, editions, wild)};
            case "price": return new long[] {num(r, editions, wild), num(r, 9, wild), num(r, r.nextInt(9) == 0 ? 101 : 6, wild)};
            case "member": return new long[] {num(r, editions, wild), num(r, 8, wild), num(r, 7, wild) - 1};
            case "about": return new long[] {num(r, editions, wild), num(r, 4, wild), num(r, 9, wild)};
            case "differs": return new long[] {num(r, editions, wild), num(r, editions, wild), num(r, 6, wild)};
            case "node": return new long[] {1 + num(r, r.nextBoolean() ? 4 : 1000, wild), r.nextInt(3) == 0 ? num(r, 1024, wild) : 1023};
            case "build": return new long[] {num(r, nodes, wild), num(r, 1024, wild)};
            case "propose": return new long[] {num(r, editions, wild), r.nextInt(9) == 0 ? num(r, 1001, wild) : m.present() + r.nextInt(5)};
            case "vote": return new long[] {num(r, nodes, wild), num(r, editions, wild), r.nextInt(6) == 0 ? 0 : 1};
            case "rise": return new long[] {1 + num(r, r.nextInt(4) == 0 ? 100 : 4, wild)};
            case "force": return new long[] {num(r, m.present() + 2, wild)};
            case "halted": return new long[] {num(r, nodes, wild)};
            case "act": return new long[] {num(r, span, wild), actOf(r, wild), num(r, 5, wild)};
            case "deploy": return new long[] {num(r, span, wild)};
            case "run": return new long[] {num(r, span, wild), longOf(r), limitOf(r, wild)};
            case "cell": return new long[] {num(r, span, wild), num(r, 4, wild)};
            case "logged": return new long[] {num(r, runs, wild), num(r, 3, wild)};
            case "replay": return new long[] {num(r, runs, wild)};
            case "count": return new long[] {num(r, 5, wild)};
            default: return new long[0];
        }
    }

    /** Acts that lay are the more frequent ones: most contracts are to be deployed. */
    private static int actOf(Random r, int wild) {
        return r.nextInt(2) == 0 ? r.nextInt(2) : num(r, 9, wild);
    }

    private static int limitOf(Random r, int wild) {
        return r.nextInt(2) == 0 ? Integer.MAX_VALUE : num(r, 60, wild);
    }

    private static long longOf(Random r) {
        return r.nextInt(2) == 0 ? LONGS[r.nextInt(LONGS.length)] : r.nextInt(2) == 0 ? r.nextLong() : r.nextInt(7) - 3;
    }

    private static int num(Random r, int bound, int wild) {
        if (r.nextInt(100) < wild) {
            return r.nextInt(3) == 0 ? bound : ODD[r.nextInt(ODD.length)];
        }
        return r.nextInt(bound);
    }

    private static long callReal(EngineVersions x, String kind, long[] a) {
        switch (kind) {
            case "edition": return x.edition((int) a[0]);
            case "price": return x.price((int) a[0], (int) a[1], (int) a[2]);
            case "member": return x.member((int) a[0], (int) a[1], (int) a[2]);
            case "about": return x.about((int) a[0], (int) a[1], (int) a[2]);
            case "differs": return x.differs((int) a[0], (int) a[1], (int) a[2]);
            case "node": return x.node((int) a[0], (int) a[1]);
            case "build": return x.build((int) a[0], (int) a[1]);
            case "propose": return x.propose((int) a[0], (int) a[1]);
            case "vote": return x.vote((int) a[0], (int) a[1], a[2] == 1);
            case "rise": return x.rise((int) a[0]);
            case "force": return x.force((int) a[0]);
            case "halted": return x.halted((int) a[0]);
            case "contract": return x.contract();
            case "act": return x.act((int) a[0], (int) a[1], (int) a[2]);
            case "deploy": return x.deploy((int) a[0]);
            case "run": return x.run((int) a[0], a[1], (int) a[2]);
            case "cell": return x.cell((int) a[0], (int) a[1]);
            case "logged": return x.logged((int) a[0], (int) a[1]);
            case "digest": return x.digest();
            case "replay": return x.replay((int) a[0]);
            default: return x.count((int) a[0]);
        }
    }

    private static long callModel(Model m, String kind, long[] a) {
        switch (kind) {
            case "edition": return m.edition(a[0]);
            case "price": return m.trait(a[0], a[1], a[1] <= 8 ? a[1] : -1, a[2], 0, 100);
            case "member": return m.trait(a[0], a[1], a[1] >= 0 ? a[1] + 9 : -1, a[2], -1, 5);
            case "about": return m.about(a[0], a[1], a[2]);
            case "differs": return m.differs(a[0], a[1], a[2]);
            case "node": return m.node(a[0], a[1]);
            case "build": return m.build(a[0], a[1]);
            case "propose": return m.propose(a[0], a[1]);
            case "vote": return m.vote(a[0], a[1], a[2] == 1);
            case "rise": return m.rise(a[0]);
            case "force": return a[0] < 0 || a[0] >= m.history.size() ? -2 : m.history.get((int) a[0]);
            case "halted": return m.nodes.has(a[0]) ? m.nodes.get(a[0]).halted : -2;
            case "contract": return m.contract();
            case "act": return m.act(a[0], a[1], a[2]);
            case "deploy": return m.deploy(a[0]);
            case "run": return m.run(a[0], a[1], a[2]);
            case "cell": return m.cell(a[0], a[1]);
            case "logged": return m.logged(a[0], a[1]);
            case "digest": return m.digests.get(m.digests.size() - 1);
            case "replay": return a[0] < 0 || a[0] >= m.digests.size() ? 0 : m.digests.get((int) a[0]);
            default: return m.count(a[0]);
        }
    }

    /** Random runs prove little of what they never came to. */
    private static void everyAnswerWasSeen() {
        String[] due = {"edition -2", "edition -4", "price -2", "price -3", "member -2", "member -3", "about -2",
            "about -1", "differs -2", "differs -1", "node -2", "node -4", "build -2", "build -3", "propose -2",
            "propose -3", "vote -2", "vote -3", "rise -2", "rise -4", "force -2", "halted -2", "halted -1",
            "contract -4", "act -2", "act -3", "act -4", "deploy -2", "deploy -3", "deploy -11", "deploy -12",
            "run -2", "run -3", "run -4", "run -13", "run -14", "logged -2", "logged -13", "logged -14", "count -2"};
        for (String answer : due) {
            Due.is("seen often enough: " + answer, seen.getOrDefault(answer, 0) >= 20 ? 1 : 0, 1);
        }
        for (String kind : KINDS) {
            Due.is("seen often enough: " + kind, seen.getOrDefault(kind + " 0", 0) >= 200 ? 1 : 0, 1);
        }
    }

    private static final class Rows<T> extends ArrayList<T> {
        private static final long serialVersionUID = 1L;

        boolean has(long i) {
            return 0 <= i && i < size();
        }

        T get(long i) {
            return get((int) i);
        }
    }

    private static final class ModelEdition {
        long[] traits = new long[17];
        long height = -1;
        int state = 0;
        List<ModelNode> voters = new ArrayList<>();
    }

    private static final class ModelNode {
        long weight;
        String build;
        long halted = -1;
    }

    private static final class ModelContract {
        List<long[]> acts = new ArrayList<>();
        ModelEdition kept = null;
        Map<Long, BigInteger> cells = new LinkedHashMap<>();
    }

    private static final class Model {
        final Rows<ModelEdition> editions = new Rows<>();
        final Rows<ModelNode> nodes = new Rows<>();
        final Rows<ModelContract> contracts = new Rows<>();
        final Rows<long[]> log = new Rows<>();
        final List<Integer> history = new ArrayList<>(List.of(0));
        final List<Integer> digests = new ArrayList<>(List.of(0));

        Model() {
            ModelEdition zero = new ModelEdition();
            Arrays.fill(zero.traits, 0, 9, 1);
            Arrays.fill(zero.traits, 9, 17, -1);
            zero.height = 0;
            zero.state = 2;
            editions.add(zero);
        }

        int present() {
            return history.size() - 1;
        }

        ModelEdition inForce() {
            return editions.get(history.get(present()));
        }

        long edition(long like) {
            if (!editions.has(like)) return -2;
            if (editions.size() == 10) return -4;
            ModelEdition copy = new ModelEdition();
            copy.traits = editions.get(like).traits.clone();
            editions.add(copy);
            return editions.size() - 1;
        }

        long trait(long edition, long asked, long trait, long v, long least, long most) {
            if (!editions.has(edition) || asked < 0 || trait < 0 || trait > 16 || v < least || v > most) return -2;
            ModelEdition e = editions.get(edition);
            if (e.height >= 0) return -3;
            long before = e.traits[(int) trait];
            e.traits[(int) trait] = v;
            return before;
        }

        long about(long edition, long what, long k) {
            if (!editions.has(edition) || what < 0 || what > 3) return -2;
            ModelEdition e = editions.get(edition);
            if (what == 2) return e.height;
            if (what == 3) return e.state;
            if (k < 0 || k > (what == 0 ? 8 : 7)) return -2;
            return e.traits[(int) (k + 9 * what)];
        }

        long differs(long one, long two, long k) {
            if (!editions.has(one) || !editions.has(two)) return -2;
            Rows<Integer> all = new Rows<>();
            for (int t = 0; t < 17; t++) {
                if (editions.get(one).traits[t] != editions.get(two).traits[t]) all.add(t);
            }
            return all.has(k) ? all.get(k) : -1;
        }

        static String bits(long build) {
            String text = "";
            for (int e = 0; e < 10; e++) {
                text += build / (1 << e) % 2 == 1 ? "<" + e + ">" : "";
            }
            return text;
        }

        long node(long weight, long build) {
            if (weight <= 0 || weight > 1000 || build < 0 || build >= 1024) return -2;
            if (nodes.size() == 12) return -4;
            ModelNode node = new ModelNode();
            node.weight = weight;
            node.build = bits(build);
            nodes.add(node);
            return nodes.size() - 1;
        }

        long build(long node, long build) {
            if (!nodes.has(node) || build < 0 || build >= 1024) return -2;
            if (nodes.get(node).halted >= 0) return -3;
            nodes.get(node).build = bits(build);
            return 1;
        }

        long propose(long edition, long height) {
            if (!editions.has(edition) || height > 1000) return -2;
            ModelEdition e = editions.get(edition);
            if (e.state != 0 || height <= present()) return -3;
            for (ModelEdition other : editions) {
                if (other.height >= height) return -3;
            }
            e.height = height;
            e.state = 1;
            return 1;
        }

        long vote(long node, long edition, boolean yes) {
            if (!nodes.has(node) || !editions.has(edition)) return -2;
            ModelNode n = nodes.get(node);
            ModelEdition e = editions.get(edition);
            if (e.state != 1 || n.halted >= 0) return -3;
            e.voters.remove(n);
            if (yes) e.voters.add(n);
            return 1;
        }

        long rise(long n) {
            if (n <= 0 || n > 100) return -2;
            if (present() + n > 1000) return -4;
            for (long i = 0; i < n; i++) step();
            return present();
        }

        void step() {
            int next = history.get(present());
            for (int number = 1; number < editions.size(); number++) {
                ModelEdition e = editions.get(number);
                if (e.height == history.size()) {
                    long all = nodes.stream().mapToLong(x -> x.weight).sum();
                    long agreed = e.voters.stream().filter(x -> x.halted < 0).mapToLong(x -> x.weight).sum();
                    e.state = agreed * 3 < all * 2 ? 3 : 2;
                    next = e.state == 2 ? number : next;
                }
            }
            history.add(next);
            for (ModelNode node : nodes) {
                if (node.halted < 0 && !node.build.contains("<" + next + ">")) node.halted = present();
            }
        }

        long contract() {
            if (contracts.size() == 12) return -4;
            contracts.add(new ModelContract());
            return contracts.size() - 1;
        }

        long act(long contract, long act, long v) {
            boolean known = act >= 0 && act <= 8;
            boolean wrong = act == 6 && (v < 0 || v > 7) || (act == 7 || act == 8) && (v < 0 || v > 3);
            if (!contracts.has(contract) || !known || wrong) return -2;
            ModelContract c = contracts.get(contract);
            if (c.kept != null) return -3;
            if (c.acts.size() == 24) return -4;
            c.acts.add(new long[] {act, v});
            return c.acts.size();
        }

        long deploy(long contract) {
            if (!contracts.has(contract)) return -2;
            ModelContract c = contracts.get(contract);
            if (c.kept != null || c.acts.isEmpty()) return -3;
            String heap = "";
            for (long[] act : c.acts) {
                if (act[0] == 6 && inForce().traits[(int) act[1] + 9] == -1) return -11;
                int takes = "002222110".charAt((int) act[0]) - '0';
                if (heap.length() < takes) return -12;
                heap = heap.substring(takes) + (act[0] == 7 ? "" : "o");
            }
            c.kept = inForce();
            return history.get(present());
        }

        long run(long contract, long argument, long limit) {
            if (!contracts.has(contract) || limit < 0) return -2;
            ModelContract c = contracts.get(contract);
            if (c.kept == null) return -3;
            if (log.size() == 64) return -4;
            Map<Long, BigInteger> cells = new LinkedHashMap<>(c.cells);
            long answer = answerOf(c, cells, BigInteger.valueOf(argument), limit);
            if (answer >= 0) c.cells = cells;
            log.add(new long[] {contract, present(), answer});
            BigInteger digest = BigInteger.valueOf(digests.get(digests.size() - 1));
            digest = digest.multiply(BigInteger.valueOf(31)).add(BigInteger.valueOf(answer));
            for (long i = 0; i < 4; i++) {
                BigInteger value = c.cells.getOrDefault(i, BigInteger.ZERO);
                digest = digest.multiply(BigInteger.valueOf(31)).add(value.shiftRight(32));
                digest = digest.multiply(BigInteger.valueOf(31)).add(value);
            }
            digests.add(digest.intValue());
            return answer;
        }

        long answerOf(ModelContract c, Map<Long, BigInteger> cells, BigInteger argument, long limit) {
            List<BigInteger> heap = new ArrayList<>();
            long cost = 0;
            for (long[] act : c.acts) {
                cost += inForce().traits[(int) act[0]];
                if (cost > limit) return -13;
                switch ((int) act[0]) {
                    case 0: heap.add(BigInteger.valueOf(act[1])); break;
                    case 1: heap.add(argument); break;
                    case 6: heap.add(wrapped(meant(c.kept.traits[(int) act[1] + 9], last(heap)))); break;
                    case 7: cells.put(act[1], last(heap)); break;
                    case 8: heap.add(cells.getOrDefault(act[1], BigInteger.ZERO)); break;
                    default:
                        BigInteger upper = last(heap);
                        BigInteger lower = last(heap);
                        if (act[0] == 5 && upper.signum() == 0) return -14;
                        heap.add(wrapped(joined(act[0], lower, upper)));
                }
            }
            return cost;
        }

        static BigInteger last(List<BigInteger> heap) {
            return heap.remove(heap.size() - 1);
        }

        static BigInteger wrapped(BigInteger v) {
            return BigInteger.valueOf(v.longValue());
        }

        static BigInteger joined(long act, BigInteger lower, BigInteger upper) {
            return act == 2 ? lower.add(upper) : act == 3 ? lower.subtract(upper)
                    : act == 4 ? lower.multiply(upper) : lower.divide(upper);
        }

        static BigInteger meant(long meaning, BigInteger v) {
            switch ((int) meaning) {
                case 0: return v.abs();
                case 1: return v.negate();
                case 2: return v.pow(2);
                case 3: return v.divide(BigInteger.TWO);
                case 4: return v.subtract(v.mod(BigInteger.TWO)).divide(BigInteger.TWO);
                default: return BigInteger.valueOf(v.and(BigInteger.ONE.shiftLeft(64).subtract(BigInteger.ONE)).bitCount());
            }
        }

        long cell(long contract, long cell) {
            return contracts.has(contract) ? contracts.get(contract).cells.getOrDefault(cell, BigInteger.ZERO).longValue() : 0;
        }

        long logged(long i, long what) {
            return log.has(i) && what >= 0 && what <= 2 ? log.get(i)[(int) what] : -2;
        }

        long count(long what) {
            long[] all = {editions.size(), nodes.size(), contracts.size(), log.size(), present()};
            return what >= 0 && what <= 4 ? all[(int) what] : -2;
        }
    }
}

/**
 * Editions of an engine by heights, agreed by votes of nodes; contracts that keep the meanings of
 * the edition under which they came, and pay the prices of the one in force; a log that is replayed.
 */
public final class EngineVersions {
    public static final int NONE = -1, BAD = -2, NO = -3, FULL = -4;

    private static final int PUSH = 0, ARGUMENT = 1, ADD = 2, SUBTRACT = 3, MULTIPLY = 4, DIVIDE = 5,
            CALL = 6, STORE = 7, FETCH = 8;
    private static final int SIZE = 0, LESS = 1, SQUARE = 2, HALF_CUT = 3, HALF_BELOW = 4, ONES = 5;
    private static final int OPEN = 0, PROPOSED = 1, IN_FORCE = 2, OVER = 3;
    private static final int NO_RULE = 0, RULE_MEMBER = 1, RULE_TAKES = 2, RULE_PRICE = 3, RULE_ZERO = 4;

    private static final int ACTS = 9, MEMBERS = 8, MEANINGS = 6, CELLS = 4;
    private static final int MOST_EDITIONS = 10, MOST_NODES = 12, MOST_CONTRACTS = 12, MOST_RUNS = 64;
    private static final int MOST_ACTS = 24, MOST_PRICE = 100, MOST_WEIGHT = 1000;
    private static final int MOST_HEIGHT = 1000, MOST_RISE = 100;
    private static final int ALL_EDITIONS = (1 << MOST_EDITIONS) - 1;

    private final Edition[] editions = new Edition[MOST_EDITIONS];
    private final Node[] nodes = new Node[MOST_NODES];
    private final Contract[] contracts = new Contract[MOST_CONTRACTS];
    private final Entry[] log = new Entry[MOST_RUNS];
    private final Edition origin = new Edition(0);
    private final Machine machine = new Machine();
    private int editionCount = 1;
    private int nodeCount = 0;
    private int contractCount = 0;
    private int runCount = 0;
    private int height = 0;
    private int digestSoFar = 0;

    public EngineVersions() {
        for (int act = 0; act < ACTS; act++) {
            origin.prices[act] = 1;
        }
        for (int member = 0; member < MEMBERS; member++) {
            origin.meanings[member] = NONE;
        }
        origin.height = 0;
        origin.state = IN_FORCE;
        editions[0] = origin;
    }

    public int edition(int like) {
        Edition model = editionAt(like);
        if (model == null) {
            return BAD;
        }
        if (editionCount >= MOST_EDITIONS) {
            return FULL;
        }
        Edition made = new Edition(editionCount);
        made.becomeLike(model);
        editions[editionCount] = made;
        editionCount++;
        return made.number;
    }

    public int price(int edition, int act, int v) {
        Edition changed = editionAt(edition);
        if (changed == null || !isBelow(act, ACTS) || v < 0 || v > MOST_PRICE) {
            return BAD;
        }
        if (changed.state != OPEN) {
            return NO;
        }
        int before = changed.prices[act];
        changed.prices[act] = v;
        return before;
    }

    public int member(int edition, int member, int meaning) {
        Edition changed = editionAt(edition);
        if (changed == null || !isBelow(member, MEMBERS)) {
            return BAD;
        }
        if (meaning != NONE && !isBelow(meaning, MEANINGS)) {
            return BAD;
        }
        if (changed.state != OPEN) {
            return NO;
        }
        int before = changed.meanings[member];
        changed.meanings[member] = meaning;
        return before;
    }

    public int about(int edition, int what, int k) {
        Edition asked = editionAt(edition);
        if (asked == null) {
            return BAD;
        }
        switch (what) {
            case 0:
                return asked.priceOf(k);
            case 1:
                return asked.meaningOf(k);
            case 2:
                return asked.height;
            case 3:
                return asked.state;
            default:
                return BAD;
        }
    }

    public int differs(int edition, int other, int k) {
        Edition one = editionAt(edition);
        Edition two = editionAt(other);
        if (one == null || two == null) {
            return BAD;
        }
        int seen = 0;
        for (int trait = 0; trait < ACTS + MEMBERS; trait++) {
            if (one.traitOf(trait) != two.traitOf(trait)) {
                if (seen == k) {
                    return trait;
                }
                seen++;
            }
        }
        return NONE;
    }

    public int node(int weight, int build) {
        if (weight < 1 || weight > MOST_WEIGHT || !isBuild(build)) {
            return BAD;
        }
        if (nodeCount >= MOST_NODES) {
            return FULL;
        }
        nodes[nodeCount] = new Node(weight, build);
        nodeCount++;
        return nodeCount - 1;
    }

    public int build(int node, int build) {
        Node changed = nodeAt(node);
        if (changed == null || !isBuild(build)) {
            return BAD;
        }
        if (changed.isHalted()) {
            return NO;
        }
        changed.build = build;
        return 1;
    }

    public int propose(int edition, int height) {
        Edition proposed = editionAt(edition);
        if (proposed == null || height > MOST_HEIGHT) {
            return BAD;
        }
        if (proposed.state != OPEN || height <= this.height || height <= highestProposed()) {
            return NO;
        }
        proposed.state = PROPOSED;
        proposed.height = height;
        return 1;
    }

    public int vote(int node, int edition, boolean yes) {
        Node voter = nodeAt(node);
        Edition chosen = editionAt(edition);
        if (voter == null || chosen == null) {
            return BAD;
        }
        if (chosen.state != PROPOSED || voter.isHalted()) {
            return NO;
        }
        voter.setVote(chosen.number, yes);
        return 1;
    }

    public int rise(int n) {
        if (n < 1 || n > MOST_RISE) {
            return BAD;
        }
        if (height + n > MOST_HEIGHT) {
            return FULL;
        }
        for (int step = 0; step < n; step++) {
            height++;
            decideProposals();
            haltLackingNodes();
        }
        return height;
    }

    public int force(int height) {
        if (height < 0 || height > this.height) {
            return BAD;
        }
        return inForceAt(height).number;
    }

    public int halted(int node) {
        Node asked = nodeAt(node);
        return asked == null ? BAD : asked.haltedAt;
    }

    public int contract() {
        if (contractCount >= MOST_CONTRACTS) {
            return FULL;
        }
        contracts[contractCount] = new Contract();
        contractCount++;
        return contractCount - 1;
    }

    public int act(int contract, int act, int v) {
        Contract written = contractAt(contract);
        if (written == null || !isActWith(act, v)) {
            return BAD;
        }
        if (written.kept != null) {
            return NO;
        }
        if (written.size >= MOST_ACTS) {
            return FULL;
        }
        written.add(act, v);
        return written.size;
    }

    public int deploy(int contract) {
        Contract deployed = contractAt(contract);
        if (deployed == null) {
            return BAD;
        }
        if (deployed.kept != null || deployed.size == 0) {
            return NO;
        }
        Edition present = inForceAt(height);
        int rule = deployed.ruleBrokenUnder(present);
        if (rule != NO_RULE) {
            return answerOfRule(rule);
        }
        deployed.kept = present;
        return present.number;
    }

    public int run(int contract, long argument, int limit) {
        Contract started = contractAt(contract);
        if (started == null || limit < 0) {
            return BAD;
        }
        if (started.kept == null) {
            return NO;
        }
        if (runCount >= MOST_RUNS) {
            return FULL;
        }
        Entry entry = new Entry(contract, argument, limit, height);
        entry.answer = machine.execute(started, started.cells, inForceAt(height), argument, limit);
        digestSoFar = started.cells.digestBehind(digestSoFar, entry.answer);
        log[runCount] = entry;
        runCount++;
        return entry.answer;
    }

    public long cell(int contract, int cell) {
        Contract asked = contractAt(contract);
        return asked == null ? 0 : asked.cells.valueOf(cell);
    }

    public int logged(int i, int what) {
        Entry asked = entryAt(i);
        if (asked == null) {
            return BAD;
        }
        switch (what) {
            case 0:
                return asked.contract;
            case 1:
                return asked.height;
            case 2:
                return asked.answer;
            default:
                return BAD;
        }
    }

    public int digest() {
        return digestSoFar;
    }

    public int replay(int n) {
        if (n < 0 || n > runCount) {
            return 0;
        }
        clearReplayCells();
        int replayed = 0;
        for (int i = 0; i < n; i++) {
            replayed = digestBehindReplayOf(entryAt(i), replayed);
        }
        return replayed;
    }

    public int count(int what) {
        switch (what) {
            case 0:
                return editionCount;
            case 1:
                return nodeCount;
            case 2:
                return contractCount;
            case 3:
                return runCount;
            case 4:
                return height;
            default:
                return BAD;
        }
    }

    private static boolean isBelow(int number, int bound) {
        return number >= 0 && number < bound;
    }

    private static boolean isBuild(int build) {
        return build >= 0 && build <= ALL_EDITIONS;
    }

    private static boolean isActWith(int act, int v) {
        switch (act) {
            case CALL:
                return isBelow(v, MEMBERS);
            case STORE:
            case FETCH:
                return isBelow(v, CELLS);
            default:
                return isBelow(act, ACTS);
        }
    }

    private static int answerOfRule(int rule) {
        return -10 - rule;
    }

    private Edition editionAt(int number) {
        return isBelow(number, editions.length) ? editions[number] : null;
    }

    private Node nodeAt(int number) {
        return isBelow(number, nodes.length) ? nodes[number] : null;
    }

    private Contract contractAt(int number) {
        return isBelow(number, contracts.length) ? contracts[number] : null;
    }

    private Entry entryAt(int number) {
        return isBelow(number, log.length) ? log[number] : null;
    }

    private int highestProposed() {
        int highest = 0;
        for (Edition edition : editions) {
            if (edition != null) {
                highest = Math.max(highest, edition.height);
            }
        }
        return highest;
    }

    /** No history of heights is held: an edition in force stays so till one of a later height is. */
    private Edition inForceAt(int asked) {
        Edition latest = origin;
        for (Edition edition : editions) {
            if (edition != null && edition.state == IN_FORCE && edition.height <= asked
                    && edition.height > latest.height) {
                latest = edition;
            }
        }
        return latest;
    }

    private void decideProposals() {
        for (Edition edition : editions) {
            if (edition != null && edition.state == PROPOSED && edition.height == height) {
                edition.state = isAgreed(edition.number) ? IN_FORCE : OVER;
            }
        }
    }

    private boolean isAgreed(int edition) {
        int all = 0;
        int agreeing = 0;
        for (Node node : nodes) {
            if (node != null) {
                all += node.weight;
                if (node.votedFor(edition) && !node.isHalted()) {
                    agreeing += node.weight;
                }
            }
        }
        return 3 * agreeing >= 2 * all;
    }

    private void haltLackingNodes() {
        int needed = inForceAt(height).number;
        for (Node node : nodes) {
            if (node != null && !node.isHalted() && !node.hasEdition(needed)) {
                node.haltedAt = height;
            }
        }
    }

    private void clearReplayCells() {
        for (Contract contract : contracts) {
            if (contract != null) {
                contract.replayCells.clear();
            }
        }
    }

    private int digestBehindReplayOf(Entry entry, int before) {
        Contract again = entry == null ? null : contractAt(entry.contract);
        if (again == null) {
            return before;
        }
        int answer = machine.execute(again, again.replayCells, inForceAt(entry.height),
                entry.argument, entry.limit);
        return again.replayCells.digestBehind(before, answer);
    }

    private static final class Edition {
        final int number;
        final int[] prices = new int[ACTS];
        final int[] meanings = new int[MEMBERS];
        int height = NONE;
        int state = OPEN;

        Edition(int number) {
            this.number = number;
        }

        void becomeLike(Edition model) {
            for (int act = 0; act < ACTS; act++) {
                prices[act] = model.prices[act];
            }
            for (int member = 0; member < MEMBERS; member++) {
                meanings[member] = model.meanings[member];
            }
        }

        int priceOf(int act) {
            return isBelow(act, prices.length) ? prices[act] : BAD;
        }

        int meaningOf(int member) {
            return isBelow(member, meanings.length) ? meanings[member] : BAD;
        }

        /** Prices and meanings as one row, in the order in which differences are told. */
        int traitOf(int trait) {
            return trait < ACTS ? priceOf(trait) : meaningOf(trait - ACTS);
        }
    }

    private static final class Node {
        final int weight;
        int build;
        int votes = 0;
        int haltedAt = NONE;

        Node(int weight, int build) {
            this.weight = weight;
            this.build = build;
        }

        boolean isHalted() {
            return haltedAt != NONE;
        }

        boolean hasEdition(int edition) {
            return (build & (1 << edition)) != 0;
        }

        boolean votedFor(int edition) {
            return (votes & (1 << edition)) != 0;
        }

        void setVote(int edition, boolean yes) {
            int bit = 1 << edition;
            votes = yes ? votes | bit : votes & ~bit;
        }
    }

    private static final class Cells {
        final long[] values = new long[CELLS];

        long valueOf(int cell) {
            return isBelow(cell, values.length) ? values[cell] : 0;
        }

        void store(int cell, long value) {
            if (isBelow(cell, values.length)) {
                values[cell] = value;
            }
        }

        void clear() {
            for (int cell = 0; cell < CELLS; cell++) {
                values[cell] = 0;
            }
        }

        void becomeLike(Cells model) {
            for (int cell = 0; cell < CELLS; cell++) {
                values[cell] = model.values[cell];
            }
        }

        int digestBehind(int before, int answer) {
            int digest = 31 * before + answer;
            for (long value : values) {
                digest = 31 * digest + (int) (value >>> 32);
                digest = 31 * digest + (int) value;
            }
            return digest;
        }
    }

    private static final class Contract {
        final int[] acts = new int[MOST_ACTS];
        final int[] numbers = new int[MOST_ACTS];
        final Cells cells = new Cells();
        final Cells replayCells = new Cells();
        int size = 0;
        Edition kept = null;

        void add(int act, int number) {
            if (isBelow(size, MOST_ACTS)) {
                acts[size] = act;
                numbers[size] = number;
                size++;
            }
        }

        int ruleBrokenUnder(Edition edition) {
            int lying = 0;
            for (int i = 0; i < size && i < MOST_ACTS; i++) {
                int act = acts[i];
                if (act == CALL && edition.meaningOf(numbers[i]) < 0) {
                    return RULE_MEMBER;
                }
                if (lying < takenBy(act)) {
                    return RULE_TAKES;
                }
                lying += laidBy(act) - takenBy(act);
            }
            return NO_RULE;
        }

        private static int takenBy(int act) {
            switch (act) {
                case ADD:
                case SUBTRACT:
                case MULTIPLY:
                case DIVIDE:
                    return 2;
                case CALL:
                case STORE:
                    return 1;
                default:
                    return 0;
            }
        }

        private static int laidBy(int act) {
            return act == STORE ? 0 : 1;
        }
    }

    /** A run as it was asked for, so that a replay can ask for it anew, and what it answered. */
    private static final class Entry {
        final int contract;
        final long argument;
        final int limit;
        final int height;
        int answer = 0;

        Entry(int contract, long argument, int limit, int height) {
            this.contract = contract;
            this.argument = argument;
            this.limit = limit;
            this.height = height;
        }
    }

    /** Its rows are made once and serve each run, so that runs and replays make no objects. */
    private static final class Machine {
        final long[] stack = new long[MOST_ACTS];
        final Cells draft = new Cells();
        int depth = 0;

        /** Stores go to a draft, since a run that finds something must leave the cells as they were. */
        int execute(Contract contract, Cells cells, Edition paid, long argument, int limit) {
            draft.becomeLike(cells);
            depth = 0;
            int cost = 0;
            for (int i = 0; i < contract.size && i < MOST_ACTS; i++) {
                int act = contract.acts[i];
                cost += paid.priceOf(act);
                if (cost > limit) {
                    return answerOfRule(RULE_PRICE);
                }
                if (act == DIVIDE && top() == 0) {
                    return answerOfRule(RULE_ZERO);
                }
                perform(act, contract.numbers[i], contract.kept, argument);
            }
            cells.becomeLike(draft);
            return cost;
        }

        private void perform(int act, int number, Edition kept, long argument) {
            switch (act) {
                case PUSH:
                    lay(number);
                    break;
                case ARGUMENT:
                    lay(argument);
                    break;
                case CALL:
                    lay(meant(kept == null ? NONE : kept.meaningOf(number), take()));
                    break;
                case STORE:
                    draft.store(number, take());
                    break;
                case FETCH:
                    lay(draft.valueOf(number));
                    break;
                default:
                    long upper = take();
                    long lower = take();
                    lay(joined(act, lower, upper));
                    break;
            }
        }

        private static long joined(int act, long lower, long upper) {
            switch (act) {
                case ADD:
                    return lower + upper;
                case SUBTRACT:
                    return lower - upper;
                case MULTIPLY:
                    return lower * upper;
                case DIVIDE:
                    return upper == 0 ? 0 : lower / upper;
                default:
                    return 0;
            }
        }

        private static long meant(int meaning, long v) {
            switch (meaning) {
                case SIZE:
                    return Math.abs(v);
                case LESS:
                    return -v;
                case SQUARE:
                    return v * v;
                case HALF_CUT:
                    return v / 2;
                case HALF_BELOW:
                    return Math.floorDiv(v, 2L);
                case ONES:
                    return Long.bitCount(v);
                default:
                    return v;
            }
        }

        private void lay(long value) {
            if (isBelow(depth, stack.length)) {
                stack[depth] = value;
                depth++;
            }
        }

        private long top() {
            return isBelow(depth - 1, stack.length) ? stack[depth - 1] : 0;
        }

        private long take() {
            long value = top();
            if (depth > 0) {
                depth--;
            }
            return value;
        }
    }
}

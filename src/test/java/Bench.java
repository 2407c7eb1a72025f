import java.util.function.Consumer;
import java.util.function.ToLongFunction;

/** What the tests of the promises share: names for numbers, engines made ready, and what an engine shows. */
abstract class Bench {
    static final int MIN = Integer.MIN_VALUE, MAX = Integer.MAX_VALUE;
    static final int NONE = -1, BAD = -2, NO = -3, FULL = -4;
    static final int NO_MEMBER = -11, TAKES_MORE = -12, PRICE = -13, ZERO = -14;
    static final int PUSH = 0, ARGUMENT = 1, ADD = 2, SUBTRACT = 3, MULTIPLY = 4, DIVIDE = 5, CALL = 6, STORE = 7,
            FETCH = 8;
    static final int SIZE = 0, LESS = 1, SQUARE = 2, HALF_CUT = 3, HALF_BELOW = 4, ONES = 5;
    static final int ALL = 1023;
    static final int OPEN = 0, PROPOSED = 1, IN_FORCE = 2, OVER = 3;

    static EngineVersions withEditions(int more) {
        EngineVersions x = new EngineVersions();
        for (int i = 0; i < more; i++) {
            x.edition(0);
        }
        return x;
    }

    /** Without nodes an edition needs no votes. */
    static void putInForce(EngineVersions x, int edition) {
        int next = x.count(4) + 1;
        Due.is("propose(" + edition + ", " + next + ")", x.propose(edition, next), 1);
        Due.is("rise(1)", x.rise(1), next);
        Due.is("force(" + next + ")", x.force(next), edition);
    }

    static int written(EngineVersions x, int... actsAndNumbers) {
        int contract = x.contract();
        for (int i = 0; i + 1 < actsAndNumbers.length; i += 2) {
            Due.is("an act more", x.act(contract, actsAndNumbers[i], actsAndNumbers[i + 1]), i / 2 + 1);
        }
        return contract;
    }

    static int deployed(EngineVersions x, int... actsAndNumbers) {
        int contract = written(x, actsAndNumbers);
        Due.is("deploy(" + contract + ")", x.deploy(contract), x.force(x.count(4)));
        return contract;
    }

    static void riseTo(EngineVersions x, int height) {
        while (x.count(4) < height) {
            x.rise(Math.min(100, height - x.count(4)));
        }
    }

    /**
     * Height 4; editions: 1 in force from 2 on, 2 over at 3, 3 proposed for 8 with votes that just suffice, 4 open;
     * nodes: 0 and 1 go on, 2 is halted; contracts: 0 of edition 0, 1 of edition 1, 2 open, 3 without acts; 4 runs.
     */
    static void scene(EngineVersions x) {
        x.edition(0);
        x.member(1, 0, LESS);
        x.price(1, ADD, 3);
        x.edition(1);
        x.edition(1);
        x.member(3, 0, SQUARE);
        x.price(3, PUSH, 2);
        x.edition(3);
        int zero = deployed(x, FETCH, 0, ARGUMENT, 0, ADD, 0, STORE, 0, PUSH, 60, FETCH, 0, DIVIDE, 0, STORE, 1);
        x.run(zero, 7, 400);
        x.propose(1, 2);
        x.rise(2);
        x.node(5, ALL);
        x.node(3, 1 + 2 + 8);
        x.node(4, 1);
        x.propose(2, 3);
        x.vote(0, 2, true);
        x.rise(1);
        x.propose(3, 8);
        x.vote(0, 3, true);
        x.vote(1, 3, true);
        x.rise(1);
        int one = deployed(x, ARGUMENT, 0, CALL, 0, STORE, 3);
        x.run(one, 9, 400);
        x.run(one, 9, 2);
        x.run(zero, -7, 400);
        written(x, FETCH, 0, ARGUMENT, 0, SUBTRACT, 0);
        x.contract();
    }

    /** All that the calls which change nothing tell. */
    static String shown(EngineVersions x) {
        StringBuilder text = new StringBuilder();
        for (int edition = 0; edition < x.count(0); edition++) {
            text.append("\nedition ").append(edition).append(':');
            for (int k = 0; k <= 8; k++) {
                text.append(' ').append(x.about(edition, 0, k));
            }
            for (int k = 0; k <= 7; k++) {
                text.append(' ').append(x.about(edition, 1, k));
            }
            text.append(' ').append(x.about(edition, 2, 0)).append(' ').append(x.about(edition, 3, 0));
        }
        text.append("\nnodes:");
        for (int node = 0; node < x.count(1); node++) {
            text.append(' ').append(x.halted(node));
        }
        for (int contract = 0; contract < x.count(2); contract++) {
            text.append("\ncells:");
            for (int cell = 0; cell <= 3; cell++) {
                text.append(' ').append(x.cell(contract, cell));
            }
        }
        text.append("\nruns:");
        int runs = x.count(3);
        for (int i = 0; i < runs; i++) {
            text.append(' ').append(x.logged(i, 0)).append('/').append(x.logged(i, 1)).append('/').append(x.logged(i, 2));
        }
        text.append("\ndigest ").append(x.digest()).append(", replayed ").append(x.replay(runs));
        int height = x.count(4);
        text.append(", height ").append(height).append(", in force ").append(x.force(height));
        return text.toString();
    }

    /** Votes, builds and acts show only in what becomes of them. */
    static String whatBecomesOf(EngineVersions x) {
        StringBuilder text = new StringBuilder();
        int next = x.count(4) + 5;
        text.append(' ').append(x.propose(x.count(0) - 1, next));
        for (int contract = 0; contract < x.count(2); contract++) {
            text.append(' ').append(x.act(contract, PUSH, 7)).append(' ').append(x.deploy(contract));
            text.append(' ').append(x.run(contract, 5, 400));
        }
        text.append(' ').append(x.rise(6));
        for (int contract = 0; contract < x.count(2); contract++) {
            text.append(' ').append(x.run(contract, 6, 400));
        }
        return text.append(shown(x)).toString();
    }

    static void refusedInTheScene(String call, int due, ToLongFunction<EngineVersions> refused) {
        refusedBehind(Bench::scene, call, due, refused);
    }

    /** Two engines had the same calls, one of them the refused one too: nothing may tell one from the other. */
    static void refusedBehind(Consumer<EngineVersions> calls, String call, int due,
            ToLongFunction<EngineVersions> refused) {
        EngineVersions one = new EngineVersions();
        EngineVersions two = new EngineVersions();
        calls.accept(one);
        calls.accept(two);
        Due.is(call, refused.applyAsLong(one), due);
        Due.same(call, shown(one), shown(two));
        EngineVersions three = new EngineVersions();
        EngineVersions four = new EngineVersions();
        calls.accept(three);
        calls.accept(four);
        Due.is(call, refused.applyAsLong(three), due);
        Due.same(call + " and what came of it", whatBecomesOf(three), whatBecomesOf(four));
    }
}

/** Promises 14 to 18: contract, act, deploy, run, cell. */
public final class ContractsTest {
    private static final int MIN = Integer.MIN_VALUE;
    private static final int MAX = Integer.MAX_VALUE;
    private static final int BAD = EngineVersions.BAD;
    private static final int NO = EngineVersions.NO;
    private static final int FULL = EngineVersions.FULL;
    private static final int PUSH = 0, ARGUMENT = 1, ADD = 2, SUBTRACT = 3, MULTIPLY = 4, DIVIDE = 5,
            CALL = 6, STORE = 7, FETCH = 8;
    private static final int NO_MEMBER = -11, TAKES_MORE = -12, PRICE = -13, ZERO = -14;

    public static void main(String[] args) {
        contracts();
        acts();
        actsAreRefused();
        deploying();
        deployIsRefused();
        rulesOfDeploying();
        arithmetic();
        meanings();
        storesAndFetches();
        deepHeaps();
        costs();
        whatFindsSomethingChangesNoCell();
        whichRuleIsFound();
        runIsRefused();
        meaningsAreKeptAndPricesAreNot();
        editionsThatAreOver();
        cellsAreOfContracts();
        cellIsRefused();
        Due.end();
    }

    private static int write(EngineVersions x, int... actsAndNumbers) {
        int contract = x.contract();
        for (int i = 0; i + 1 < actsAndNumbers.length; i += 2) {
            Due.is("an act more", x.act(contract, actsAndNumbers[i], actsAndNumbers[i + 1]), i / 2 + 1);
        }
        return contract;
    }

    private static void contracts() {
        EngineVersions x = new EngineVersions();
        for (int number = 0; number <= 11; number++) {
            Due.is("contract " + number, x.contract(), number);
        }
        Due.is("contract above 12", x.contract(), FULL);
        Due.is("contracts", x.count(2), 12);
    }

    private static void acts() {
        EngineVersions x = new EngineVersions();
        int contract = write(x, PUSH, MIN, PUSH, MAX, ARGUMENT, MIN, ADD, MAX, SUBTRACT, -1, MULTIPLY, 99,
                DIVIDE, -99, CALL, 0, CALL, 7, STORE, 0, STORE, 3, FETCH, 0, FETCH, 3);
        for (int size = 14; size <= 24; size++) {
            Due.is("act " + size, x.act(contract, PUSH, size), size);
        }
        Due.is("act above 24", x.act(contract, PUSH, 1), FULL);
        Due.is("BAD before FULL", x.act(contract, 9, 1), BAD);
        Due.is("acts are of contracts", x.act(x.contract(), PUSH, 1), 1);
    }

    private static void actsAreRefused() {
        EngineVersions x = new EngineVersions();
        int contract = x.contract();
        for (int wrong : new int[] {-1, 1, 12, MIN, MAX}) {
            Due.is("act of contract " + wrong, x.act(wrong, PUSH, 1), BAD);
        }
        for (int wrong : new int[] {-1, 9, MIN, MAX}) {
            Due.is("act " + wrong, x.act(contract, wrong, 1), BAD);
        }
        for (int wrong : new int[] {-1, 8, MIN, MAX}) {
            Due.is("call " + wrong, x.act(contract, CALL, wrong), BAD);
        }
        for (int wrong : new int[] {-1, 4, MIN, MAX}) {
            Due.is("store " + wrong, x.act(contract, STORE, wrong), BAD);
            Due.is("fetch " + wrong, x.act(contract, FETCH, wrong), BAD);
        }
        Due.is("none of these came", x.act(contract, PUSH, 1), 1);
        x.deploy(contract);
        Due.is("act of a deployed one", x.act(contract, PUSH, 1), NO);
        Due.is("BAD before NO", x.act(contract, STORE, 4), BAD);
        int full = x.contract();
        for (int i = 0; i < 24; i++) {
            x.act(full, PUSH, i);
        }
        Due.is("24 acts are deployed", x.deploy(full), 0);
        Due.is("NO before FULL", x.act(full, PUSH, 1), NO);
        Due.is("24 acts run", x.run(full, 0, 24), 24);
    }

    private static void deploying() {
        EngineVersions x = new EngineVersions();
        x.edition(0);
        x.edition(0);
        x.propose(2, 1);
        int one = write(x, PUSH, 1);
        int two = write(x, PUSH, 1);
        Due.is("under 0", x.deploy(one), 0);
        x.rise(1);
        Due.is("under 2", x.deploy(two), 2);
        Due.is("twice", x.deploy(one), NO);
    }

    private static void deployIsRefused() {
        EngineVersions x = new EngineVersions();
        int contract = x.contract();
        for (int wrong : new int[] {-1, 1, 12, MIN, MAX}) {
            Due.is("deploy(" + wrong + ")", x.deploy(wrong), BAD);
        }
        Due.is("without acts", x.deploy(contract), NO);
        x.act(contract, ADD, 0);
        Due.is("it takes two of nothing", x.deploy(contract), TAKES_MORE);
        Due.is("it stays open", x.act(contract, PUSH, 1), 2);
        Due.is("and is refused again", x.deploy(contract), TAKES_MORE);
        Due.is("it does not run", x.run(contract, 0, 100), NO);
    }

    private static void rulesOfDeploying() {
        EngineVersions x = new EngineVersions();
        x.edition(0);
        x.member(1, 3, 0);
        x.propose(1, 1);
        int called = write(x, ARGUMENT, 0, CALL, 3, STORE, 0);
        Due.is("the member is not there yet", x.deploy(called), NO_MEMBER);
        x.rise(1);
        Due.is("now it is", x.deploy(called), 1);
        Due.is("a call of nothing, not there", x.deploy(write(x, CALL, 2)), NO_MEMBER);
        Due.is("a call of nothing, there", x.deploy(write(x, CALL, 3)), TAKES_MORE);
        Due.is("the first act's rule: 2", x.deploy(write(x, STORE, 0, CALL, 2)), TAKES_MORE);
        Due.is("the first act's rule: 1", x.deploy(write(x, PUSH, 1, CALL, 2, ADD, 0)), NO_MEMBER);
        Due.is("one for two", x.deploy(write(x, PUSH, 1, ADD, 0)), TAKES_MORE);
        Due.is("store of nothing left", x.deploy(write(x, FETCH, 0, STORE, 0, STORE, 0)), TAKES_MORE);
        Due.is("two lay one", x.deploy(write(x, PUSH, 1, PUSH, 1, ADD, 0, SUBTRACT, 0)), TAKES_MORE);
        Due.is("a call keeps one", x.deploy(write(x, PUSH, 1, CALL, 3, CALL, 3, STORE, 1, STORE, 1)), TAKES_MORE);
        EngineVersions y = new EngineVersions();
        for (int act = ADD; act <= DIVIDE; act++) {
            Due.is("takes two of one", y.deploy(write(y, ARGUMENT, 0, act, 0)), TAKES_MORE);
            Due.is("takes two of two", y.deploy(write(y, ARGUMENT, 0, FETCH, 0, act, 0, STORE, 0)), 0);
        }
        Due.is("a fetch of nothing", y.deploy(write(y, FETCH, 0)), 0);
    }

    private static long computed(int act, long lower, int upper) {
        EngineVersions x = new EngineVersions();
        int contract = write(x, ARGUMENT, 0, PUSH, upper, act, 0, STORE, 0);
        x.deploy(contract);
        Due.is("computed", x.run(contract, lower, 4), 4);
        return x.cell(contract, 0);
    }

    private static void arithmetic() {
        Due.is("7 and 5", computed(ADD, 7, 5), 12);
        Due.is("7 less 5", computed(SUBTRACT, 7, 5), 2);
        Due.is("5 less 7", computed(SUBTRACT, 5, 7), -2);
        Due.is("7 times 5", computed(MULTIPLY, 7, -5), -35);
        Due.is("17 by 5", computed(DIVIDE, 17, 5), 3);
        Due.is("-17 by 5, cut", computed(DIVIDE, -17, 5), -3);
        Due.is("17 by -5, cut", computed(DIVIDE, 17, -5), -3);
        Due.is("5 by 17", computed(DIVIDE, 5, 17), 0);
        Due.is("17 by 1", computed(DIVIDE, 17, 1), 17);
        Due.is("sum wraps", computed(ADD, Long.MAX_VALUE, 1), Long.MIN_VALUE);
        Due.is("difference wraps", computed(SUBTRACT, Long.MIN_VALUE, 1), Long.MAX_VALUE);
        Due.is("product wraps", computed(MULTIPLY, 1L << 62, 6), 1L << 63);
        Due.is("quotient wraps", computed(DIVIDE, Long.MIN_VALUE, -1), Long.MIN_VALUE);
        Due.is("longs, not ints", computed(ADD, MAX, MAX), 4294967294L);
        Due.is("push of the least", computed(ADD, 0, MIN), MIN);
        Due.is("push of the greatest", computed(ADD, 0, MAX), MAX);
    }

    private static long meant(int meaning, long v) {
        EngineVersions x = new EngineVersions();
        x.edition(0);
        x.member(1, 7 - meaning, meaning);
        x.propose(1, 1);
        x.rise(1);
        int contract = write(x, ARGUMENT, 0, CALL, 7 - meaning, STORE, 3);
        Due.is("deploy", x.deploy(contract), 1);
        Due.is("run", x.run(contract, v, 3), 3);
        return x.cell(contract, 3);
    }

    private static void meanings() {
        long least = Long.MIN_VALUE;
        long greatest = Long.MAX_VALUE;
        Due.is("size of -7", meant(0, -7), 7);
        Due.is("size of 7", meant(0, 7), 7);
        Due.is("size of the least", meant(0, least), least);
        Due.is("less 7", meant(1, 7), -7);
        Due.is("less -7", meant(1, -7), 7);
        Due.is("less the least", meant(1, least), least);
        Due.is("-9 times -9", meant(2, -9), 81);
        Due.is("square wraps", meant(2, 3037000500L), 3037000500L * 3037000500L);
        Due.is("square of the least", meant(2, least), 0);
        Due.is("7 by 2, cut", meant(3, 7), 3);
        Due.is("-7 by 2, cut", meant(3, -7), -3);
        Due.is("-1 by 2, cut", meant(3, -1), 0);
        Due.is("the least by 2, cut", meant(3, least), -4611686018427387904L);
        Due.is("7 by 2, not above", meant(4, 7), 3);
        Due.is("-7 by 2, not above", meant(4, -7), -4);
        Due.is("-1 by 2, not above", meant(4, -1), -1);
        Due.is("-8 by 2, not above", meant(4, -8), -4);
        Due.is("bits of 0", meant(5, 0), 0);
        Due.is("bits of -1", meant(5, -1), 64);
        Due.is("bits of the least", meant(5, least), 1);
        Due.is("bits of the greatest", meant(5, greatest), 63);
    }

    private static void storesAndFetches() {
        EngineVersions x = new EngineVersions();
        int contract = write(x, FETCH, 0, ARGUMENT, 0, ADD, 0, STORE, 0, FETCH, 0, STORE, 1,
                PUSH, 5, STORE, 2, PUSH, 6, STORE, 3, PUSH, 8, STORE, 2);
        x.deploy(contract);
        Due.is("run 1", x.run(contract, 10, 100), 12);
        Due.is("cell 0", x.cell(contract, 0), 10);
        Due.is("a fetch sees the store ahead of it", x.cell(contract, 1), 10);
        Due.is("the last store holds", x.cell(contract, 2), 8);
        Due.is("cell 3", x.cell(contract, 3), 6);
        Due.is("run 2", x.run(contract, 5, 100), 12);
        Due.is("cells last", x.cell(contract, 0), 15);
        int leftover = write(x, PUSH, 77, PUSH, 78);
        int taker = write(x, ARGUMENT, 0, STORE, 0);
        x.deploy(leftover);
        x.deploy(taker);
        x.run(leftover, 0, 100);
        Due.is("a run begins with nothing", x.run(taker, 4, 100), 2);
        Due.is("what lay there is gone", x.cell(taker, 0), 4);
    }

    private static void deepHeaps() {
        EngineVersions x = new EngineVersions();
        int high = x.contract();
        int sum = x.contract();
        for (int i = 1; i <= 23; i++) {
            x.act(high, PUSH, i);
            x.act(sum, i <= 12 ? PUSH : i % 2 == 0 ? SUBTRACT : ADD, i);
        }
        x.act(high, STORE, 0);
        x.act(sum, STORE, 0);
        Due.is("23 lie there", x.deploy(high), 0);
        Due.is("run", x.run(high, 0, 24), 24);
        Due.is("the top of 23", x.cell(high, 0), 23);
        Due.is("12 lie there, then 1", x.deploy(sum), 0);
        Due.is("run", x.run(sum, 0, 24), 24);
        Due.is("from the top down", x.cell(sum, 0), foldedFromTheTop());
    }

    /** 12 and 11, then 10 less that, then 9 and that, and so on down to 1. */
    private static long foldedFromTheTop() {
        long top = 12;
        for (int lower = 11; lower >= 1; lower--) {
            top = lower % 2 == 1 ? lower + top : lower - top;
        }
        return top;
    }

    private static void costs() {
        EngineVersions x = new EngineVersions();
        x.edition(0);
        x.member(1, 0, 0);
        for (int act = 0; act <= 8; act++) {
            x.price(1, act, act * act);
        }
        x.propose(1, 1);
        x.rise(1);
        int all = write(x, PUSH, 1, PUSH, 1, ARGUMENT, 0, PUSH, 1, ADD, 0, SUBTRACT, 0, MULTIPLY, 0,
                CALL, 0, PUSH, 1, DIVIDE, 0, STORE, 0, FETCH, 0);
        Due.is("deployed", x.deploy(all), 1);
        int cost = 1 + 4 + 9 + 16 + 25 + 36 + 49 + 64;
        Due.is("each act's price", x.run(all, 0, cost), cost);
        Due.is("one below", x.run(all, 0, cost - 1), PRICE);
        Due.is("the greatest limit", x.run(all, 0, MAX), cost);
        int free = write(x, PUSH, 1, PUSH, 2);
        x.deploy(free);
        Due.is("free acts, limit 0", x.run(free, 0, 0), 0);
        int cheap = write(x, ARGUMENT, 0);
        x.deploy(cheap);
        Due.is("limit 0", x.run(cheap, 0, 0), PRICE);
        Due.is("limit 1", x.run(cheap, 0, 1), 1);
        EngineVersions y = new EngineVersions();
        y.edition(0);
        y.price(1, PUSH, 100);
        y.propose(1, 1);
        y.rise(1);
        int dear = y.contract();
        for (int i = 0; i < 24; i++) {
            y.act(dear, PUSH, i);
        }
        y.deploy(dear);
        Due.is("the dearest", y.run(dear, 0, 2400), 2400);
        Due.is("the dearest, refused", y.run(dear, 0, 2399), PRICE);
    }

    private static void whatFindsSomethingChangesNoCell() {
        EngineVersions x = new EngineVersions();
        int contract = write(x, ARGUMENT, 0, STORE, 0, PUSH, 100, ARGUMENT, 0, DIVIDE, 0, STORE, 1);
        x.deploy(contract);
        Due.is("run", x.run(contract, 20, 100), 6);
        Due.is("zero", x.run(contract, 0, 100), ZERO);
        Due.is("cell 0 after zero", x.cell(contract, 0), 20);
        Due.is("price", x.run(contract, 30, 5), PRICE);
        Due.is("cell 0 after price", x.cell(contract, 0), 20);
        Due.is("cell 1 after both", x.cell(contract, 1), 5);
        Due.is("all are in the log", x.count(3), 3);
        Due.is("the next run", x.run(contract, 50, 6), 6);
        Due.is("starts from what held", x.cell(contract, 1), 2);
    }

    private static void whichRuleIsFound() {
        EngineVersions x = new EngineVersions();
        int contract = write(x, PUSH, 1, PUSH, 0, DIVIDE, 0, STORE, 0);
        x.deploy(contract);
        Due.is("the price is ahead of the act", x.run(contract, 0, 2), PRICE);
        Due.is("what is behind the act costs nothing yet", x.run(contract, 0, 3), ZERO);
        int lower = write(x, PUSH, 0, PUSH, 3, DIVIDE, 0, STORE, 0);
        x.deploy(lower);
        Due.is("0 by 3 is no zero", x.run(lower, 0, 4), 4);
        int sum = write(x, PUSH, 5, PUSH, 0, ADD, 0, PUSH, 0, SUBTRACT, 0, PUSH, 0, MULTIPLY, 0, STORE, 0);
        x.deploy(sum);
        Due.is("other acts may have 0", x.run(sum, 0, 8), 8);
    }

    private static void runIsRefused() {
        EngineVersions x = new EngineVersions();
        int contract = write(x, ARGUMENT, 0, STORE, 0);
        for (int wrong : new int[] {-1, 1, 12, MIN, MAX}) {
            Due.is("run(" + wrong + ")", x.run(wrong, 0, 1), BAD);
        }
        Due.is("not deployed", x.run(contract, 0, 1), NO);
        Due.is("BAD before NO", x.run(contract, 0, -1), BAD);
        x.deploy(contract);
        Due.is("limit -1", x.run(contract, 0, -1), BAD);
        Due.is("the least limit", x.run(contract, 0, MIN), BAD);
        Due.is("none is in the log", x.count(3), 0);
        int open = x.contract();
        for (int i = 0; i < 64; i++) {
            Due.is("run " + i, x.run(contract, i, i % 2 == 0 ? 2 : 1), i % 2 == 0 ? 2 : PRICE);
        }
        int digest = x.digest();
        Due.is("the log is full", x.run(contract, 99, 2), FULL);
        Due.is("BAD before FULL", x.run(contract, 99, -1), BAD);
        Due.is("NO before FULL", x.run(open, 99, 2), NO);
        Due.is("nothing changed", x.cell(contract, 0), 62);
        Due.is("nor the digest", x.digest(), digest);
        Due.is("runs", x.count(3), 64);
    }

    private static void meaningsAreKeptAndPricesAreNot() {
        EngineVersions x = new EngineVersions();
        x.edition(0);
        x.member(1, 0, 1);
        x.edition(1);
        x.member(2, 0, 2);
        x.price(2, ARGUMENT, 10);
        x.price(2, CALL, 20);
        x.edition(0);
        x.propose(1, 1);
        x.propose(2, 2);
        x.propose(3, 3);
        x.rise(1);
        int old = write(x, ARGUMENT, 0, CALL, 0, STORE, 0);
        Due.is("under 1", x.deploy(old), 1);
        Due.is("prices of 1", x.run(old, 9, 100), 3);
        Due.is("meaning of 1", x.cell(old, 0), -9);
        x.rise(1);
        Due.is("prices of 2", x.run(old, 8, 100), 31);
        Due.is("meaning of 1 yet", x.cell(old, 0), -8);
        int young = write(x, ARGUMENT, 0, CALL, 0, STORE, 0);
        Due.is("under 2", x.deploy(young), 2);
        Due.is("prices of 2 too", x.run(young, 8, 31), 31);
        Due.is("meaning of 2", x.cell(young, 0), 64);
        x.rise(1);
        Due.is("3 has no member 0", x.about(3, 1, 0), EngineVersions.NONE);
        Due.is("prices of 3", x.run(old, 7, 3), 3);
        Due.is("meaning of 1 for ever", x.cell(old, 0), -7);
        Due.is("prices of 3 too", x.run(young, 7, 3), 3);
        Due.is("meaning of 2 for ever", x.cell(young, 0), 49);
        Due.is("a new one lacks it", x.deploy(write(x, ARGUMENT, 0, CALL, 0)), NO_MEMBER);
    }

    private static void editionsThatAreOver() {
        EngineVersions x = new EngineVersions();
        x.edition(0);
        x.member(1, 0, 1);
        x.price(1, PUSH, 50);
        x.node(1, 1023);
        x.propose(1, 1);
        x.rise(2);
        Due.is("the member never came", x.deploy(write(x, PUSH, 1, CALL, 0)), NO_MEMBER);
        int contract = write(x, PUSH, 1);
        Due.is("under 0", x.deploy(contract), 0);
        Due.is("prices of 0", x.run(contract, 0, 100), 1);
    }

    private static void cellsAreOfContracts() {
        EngineVersions x = new EngineVersions();
        int one = write(x, ARGUMENT, 0, STORE, 1);
        int two = write(x, ARGUMENT, 0, STORE, 1);
        x.deploy(one);
        x.deploy(two);
        x.run(one, Long.MIN_VALUE, 2);
        x.run(two, Long.MAX_VALUE, 2);
        Due.is("cell of one", x.cell(one, 1), Long.MIN_VALUE);
        Due.is("cell of two", x.cell(two, 1), Long.MAX_VALUE);
        Due.is("another cell", x.cell(one, 0), 0);
    }

    private static void cellIsRefused() {
        EngineVersions x = new EngineVersions();
        int contract = write(x, PUSH, 9, STORE, 0, PUSH, 9, STORE, 1, PUSH, 9, STORE, 2, PUSH, 9, STORE, 3);
        Due.is("open: 0", x.cell(contract, 0), 0);
        x.deploy(contract);
        Due.is("deployed: 0", x.cell(contract, 3), 0);
        x.run(contract, 0, 8);
        for (int cell = 0; cell <= 3; cell++) {
            Due.is("cell " + cell, x.cell(contract, cell), 9);
        }
        for (int wrong : new int[] {-1, 4, MIN, MAX}) {
            Due.is("cell " + wrong, x.cell(contract, wrong), 0);
        }
        for (int wrong : new int[] {-1, 1, 12, MIN, MAX}) {
            Due.is("cell of " + wrong, x.cell(wrong, 0), 0);
        }
    }
}

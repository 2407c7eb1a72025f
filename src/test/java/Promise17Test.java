/** Promise 17: run. */
public final class Promise17Test extends Bench {
    private static final long LEAST = Long.MIN_VALUE, GREATEST = Long.MAX_VALUE;

    public static void main(String[] args) throws IllegalAccessException {
        Due.allTestsOf(Promise17Test.class);
    }

    private static long computed(int act, long lower, int upper) {
        EngineVersions x = new EngineVersions();
        int contract = deployed(x, ARGUMENT, 0, PUSH, upper, act, 0, STORE, 0);
        Due.is("run", x.run(contract, lower, 4), 4);
        return x.cell(contract, 0);
    }

    private static long meant(int meaning, long v) {
        EngineVersions x = withEditions(1);
        x.member(1, 7 - meaning, meaning);
        putInForce(x, 1);
        int contract = deployed(x, ARGUMENT, 0, CALL, 7 - meaning, STORE, 3);
        Due.is("run", x.run(contract, v, 3), 3);
        return x.cell(contract, 3);
    }

    private static EngineVersions withPrices(int... prices) {
        EngineVersions x = withEditions(1);
        for (int act = 0; act < prices.length; act++) {
            x.price(1, act, prices[act]);
        }
        x.member(1, 0, SIZE);
        putInForce(x, 1);
        return x;
    }

    // "A RUN: what it cost."
    private static void promise17_whatItCost() {
        EngineVersions x = withPrices(1, 2, 3, 4, 5, 6, 7, 8, 9);
        int[][] due = {{PUSH, 1}, {ARGUMENT, 2}, {FETCH, 9}};
        for (int[] row : due) {
            Due.is("act " + row[0], x.run(deployed(x, row[0], 0), 0, 100), row[1]);
        }
        for (int act = ADD; act <= DIVIDE; act++) {
            int contract = deployed(x, ARGUMENT, 0, ARGUMENT, 0, act, 0);
            Due.is("act " + act, x.run(contract, 1, 100), 4 + 1 + act);
        }
        Due.is("call", x.run(deployed(x, PUSH, 0, CALL, 0), 0, 100), 1 + 7);
        Due.is("store", x.run(deployed(x, PUSH, 0, STORE, 0), 0, 100), 1 + 8);
    }

    // "PRICE (0 .. 100)"
    private static void promise17_freeActsCostNothing() {
        EngineVersions x = withPrices(0, 0, 0, 0, 0, 0, 0, 0, 0);
        int contract = deployed(x, ARGUMENT, 0, PUSH, 2, ADD, 0, STORE, 0);
        Due.is("limit 0", x.run(contract, 3, 0), 0);
        Due.is("its cell", x.cell(contract, 0), 5);
    }

    private static void promise17_theDearestRun() {
        EngineVersions x = withPrices(100);
        int contract = x.contract();
        for (int i = 0; i < 24; i++) {
            x.act(contract, PUSH, i);
        }
        x.deploy(contract);
        Due.is("limit 2400", x.run(contract, 0, 2400), 2400);
        Due.is("limit 2399", x.run(contract, 0, 2399), PRICE);
        Due.is("limit MAX", x.run(contract, 0, MAX), 2400);
    }

    // "what would cost more than LIMIT in all finds 3 PRICE"
    private static void promise17_asMuchAsTheLimitIsFine() {
        EngineVersions x = new EngineVersions();
        int contract = deployed(x, ARGUMENT, 0, STORE, 0);
        Due.is("limit 2", x.run(contract, 0, 2), 2);
        Due.is("limit 1", x.run(contract, 0, 1), PRICE);
        Due.is("limit 3", x.run(contract, 0, 3), 2);
    }

    private static void promise17_limitZero() {
        EngineVersions x = new EngineVersions();
        int contract = deployed(x, PUSH, 1);
        Due.is("limit 0", x.run(contract, 0, 0), PRICE);
        Due.is("limit 1", x.run(contract, 0, 1), 1);
    }

    // "BAD: limit below 0"
    private static void promise17_badLimitBelowZero() {
        EngineVersions x = new EngineVersions();
        int contract = deployed(x, PUSH, 1);
        Due.is("limit -1", x.run(contract, 0, -1), BAD);
        Due.is("limit MIN", x.run(contract, 0, MIN), BAD);
        Due.is("the log", x.count(3), 0);
    }

    private static void promise17_theGreatestLimit() {
        EngineVersions x = new EngineVersions();
        Due.is("limit MAX", x.run(deployed(x, PUSH, 1), 0, MAX), 1);
    }

    // "DIVIDE by 0 finds 4 ZERO"
    private static void promise17_divideByZero() {
        EngineVersions x = new EngineVersions();
        int contract = deployed(x, PUSH, 7, ARGUMENT, 0, DIVIDE, 0, STORE, 0);
        Due.is("by 0", x.run(contract, 0, 100), ZERO);
        Due.is("by 1", x.run(contract, 1, 100), 4);
        Due.is("by -1", x.run(contract, -1, 100), 4);
        Due.is("by 2 to the 32nd", x.run(contract, 1L << 32, 100), 4);
    }

    private static void promise17_zeroDividedByZero() {
        EngineVersions x = new EngineVersions();
        Due.is("0 by 0", x.run(deployed(x, FETCH, 0, FETCH, 1, DIVIDE, 0), 0, 100), ZERO);
    }

    private static void promise17_zeroDividedIsFine() {
        Due.is("0 by 3", computed(DIVIDE, 0, 3), 0);
    }

    private static void promise17_otherActsMayHaveZero() {
        Due.is("5 and 0", computed(ADD, 5, 0), 5);
        Due.is("5 less 0", computed(SUBTRACT, 5, 0), 5);
        Due.is("5 times 0", computed(MULTIPLY, 5, 0), 0);
    }

    // "ACTS one by one", "Each costs, ahead": what is found first is told.
    private static void promise17_thePriceIsPaidAheadOfTheAct() {
        EngineVersions x = new EngineVersions();
        int contract = deployed(x, PUSH, 1, PUSH, 0, DIVIDE, 0, STORE, 0);
        Due.is("the divide can't be paid", x.run(contract, 0, 2), PRICE);
        Due.is("the divide is paid", x.run(contract, 0, 3), ZERO);
    }

    private static void promise17_aZeroAheadOfWhatIsTooDear() {
        EngineVersions x = withPrices(1, 1, 1, 1, 1, 1, 1, 100, 1);
        int contract = deployed(x, PUSH, 1, PUSH, 0, DIVIDE, 0, STORE, 0);
        Due.is("limit 3", x.run(contract, 0, 3), ZERO);
        Due.is("limit 102", x.run(contract, 0, 102), ZERO);
        int behind = deployed(x, PUSH, 9, STORE, 0, PUSH, 1, PUSH, 0, DIVIDE, 0);
        Due.is("too dear ahead of the zero", x.run(behind, 0, 100), PRICE);
        Due.is("dear enough", x.run(behind, 0, 104), ZERO);
    }

    // "NO: it is not DEPLOYED"
    private static void promise17_noWhileItIsOpen() {
        EngineVersions x = new EngineVersions();
        int contract = x.contract();
        Due.is("without acts", x.run(contract, 0, 100), NO);
        x.act(contract, PUSH, 1);
        Due.is("with an act", x.run(contract, 0, 100), NO);
        x.act(contract, ADD, 1);
        x.deploy(contract);
        Due.is("refused by a rule", x.run(contract, 0, 100), NO);
        Due.is("the log", x.count(3), 0);
    }

    private static void promise17_badContractThatIsNotThere() {
        EngineVersions x = new EngineVersions();
        Due.is("without contracts", x.run(0, 0, 1), BAD);
        deployed(x, PUSH, 1);
        for (int wrong : new int[] {-1, 1, 11, 12, MIN, MAX}) {
            Due.is("run(" + wrong + ", 0, 1)", x.run(wrong, 0, 1), BAD);
        }
    }

    private static void promise17_theTwelfthContract() {
        EngineVersions x = new EngineVersions();
        for (int number = 0; number <= 11; number++) {
            deployed(x, PUSH, number, STORE, 0);
        }
        Due.is("run(11, 0, 2)", x.run(11, 0, 2), 2);
        Due.is("its cell", x.cell(11, 0), 11);
        Due.is("run(12, 0, 2)", x.run(12, 0, 2), BAD);
    }

    // "THE LOG (64 at most)", "FULL: THE LOG"
    private static void promise17_the64thRunAndNoneAbove64() {
        EngineVersions x = new EngineVersions();
        int contract = deployed(x, ARGUMENT, 0, STORE, 0);
        for (int i = 1; i <= 64; i++) {
            Due.is("run " + i, x.run(contract, i, 2), 2);
        }
        Due.is("run 65", x.run(contract, 65, 2), FULL);
        Due.is("its cell", x.cell(contract, 0), 64);
        Due.is("the log", x.count(3), 64);
    }

    // "(it is put to THE LOG, too)"
    private static void promise17_whatFindsSomethingFillsTheLogToo() {
        EngineVersions x = new EngineVersions();
        int contract = deployed(x, PUSH, 1, ARGUMENT, 0, DIVIDE, 0);
        for (int i = 1; i <= 64; i++) {
            Due.is("run " + i, x.run(contract, 0, i % 2 == 0 ? 3 : 2), i % 2 == 0 ? ZERO : PRICE);
            Due.is("the log", x.count(3), i);
        }
        Due.is("what would find PRICE", x.run(contract, 0, 2), FULL);
        Due.is("what would find ZERO", x.run(contract, 0, 3), FULL);
    }

    // "the first that fits"
    private static void promise17_badComesBeforeNo() {
        EngineVersions x = new EngineVersions();
        int contract = x.contract();
        Due.is("limit -1", x.run(contract, 0, -1), BAD);
    }

    private static void promise17_badAndNoComeBeforeFull() {
        EngineVersions x = new EngineVersions();
        int contract = deployed(x, ARGUMENT, 0);
        int open = x.contract();
        for (int i = 1; i <= 64; i++) {
            x.run(contract, i, 1);
        }
        Due.is("limit -1", x.run(contract, 0, -1), BAD);
        Due.is("no such contract", x.run(2, 0, 1), BAD);
        Due.is("an open one", x.run(open, 0, 1), NO);
    }

    // "lay the lower by the upper one"
    private static void promise17_theLowerByTheUpper() {
        Due.is("7 and 5", computed(ADD, 7, 5), 12);
        Due.is("7 less 5", computed(SUBTRACT, 7, 5), 2);
        Due.is("5 less 7", computed(SUBTRACT, 5, 7), -2);
        Due.is("7 times -5", computed(MULTIPLY, 7, -5), -35);
        Due.is("17 by 5", computed(DIVIDE, 17, 5), 3);
        Due.is("5 by 17", computed(DIVIDE, 5, 17), 0);
    }

    // "(longs, that wrap"
    private static void promise17_sumsWrap() {
        Due.is("the greatest and 1", computed(ADD, GREATEST, 1), LEAST);
        Due.is("the least and -1", computed(ADD, LEAST, -1), GREATEST);
        Due.is("beyond ints", computed(ADD, MAX, MAX), 4294967294L);
    }

    private static void promise17_differencesWrap() {
        Due.is("the least less 1", computed(SUBTRACT, LEAST, 1), GREATEST);
        Due.is("the greatest less -1", computed(SUBTRACT, GREATEST, -1), LEAST);
        Due.is("beyond ints", computed(SUBTRACT, MIN, MAX), -4294967295L);
    }

    private static void promise17_productsWrap() {
        Due.is("2 to the 62nd, 6 times", computed(MULTIPLY, 1L << 62, 6), LEAST);
        Due.is("2 to the 62nd, 4 times", computed(MULTIPLY, 1L << 62, 4), 0);
        Due.is("the least, -1 times", computed(MULTIPLY, LEAST, -1), LEAST);
        Due.is("beyond ints", computed(MULTIPLY, MAX, MAX), 4611686014132420609L);
    }

    private static void promise17_theOneQuotientThatWraps() {
        Due.is("the least by -1", computed(DIVIDE, LEAST, -1), LEAST);
        Due.is("the greatest by -1", computed(DIVIDE, GREATEST, -1), -GREATEST);
        Due.is("the least by 1", computed(DIVIDE, LEAST, 1), LEAST);
    }

    // "DIVIDE cut)"
    private static void promise17_quotientsAreCut() {
        Due.is("-17 by 5", computed(DIVIDE, -17, 5), -3);
        Due.is("17 by -5", computed(DIVIDE, 17, -5), -3);
        Due.is("-17 by -5", computed(DIVIDE, -17, -5), 3);
        Due.is("-1 by 2", computed(DIVIDE, -1, 2), 0);
    }

    // "0 its size"
    private static void promise17_meaningSize() {
        Due.is("7", meant(SIZE, 7), 7);
        Due.is("-7", meant(SIZE, -7), 7);
        Due.is("0", meant(SIZE, 0), 0);
        Due.is("the greatest", meant(SIZE, GREATEST), GREATEST);
        Due.is("one above the least", meant(SIZE, LEAST + 1), GREATEST);
        Due.is("the least wraps", meant(SIZE, LEAST), LEAST);
    }

    // "1 less it"
    private static void promise17_meaningLess() {
        Due.is("7", meant(LESS, 7), -7);
        Due.is("-7", meant(LESS, -7), 7);
        Due.is("0", meant(LESS, 0), 0);
        Due.is("the greatest", meant(LESS, GREATEST), LEAST + 1);
        Due.is("the least wraps", meant(LESS, LEAST), LEAST);
    }

    // "2 v times v"
    private static void promise17_meaningSquare() {
        Due.is("-9", meant(SQUARE, -9), 81);
        Due.is("0", meant(SQUARE, 0), 0);
        Due.is("the last that fits", meant(SQUARE, 3037000499L), 9223372030926249001L);
        Due.is("the first that wraps", meant(SQUARE, 3037000500L), -9223372036709301616L);
        Due.is("the greatest wraps", meant(SQUARE, GREATEST), 1);
        Due.is("the least wraps", meant(SQUARE, LEAST), 0);
    }

    // "3 v by 2, cut"
    private static void promise17_meaningHalfCut() {
        Due.is("7", meant(HALF_CUT, 7), 3);
        Due.is("-7", meant(HALF_CUT, -7), -3);
        Due.is("-8", meant(HALF_CUT, -8), -4);
        Due.is("1", meant(HALF_CUT, 1), 0);
        Due.is("-1", meant(HALF_CUT, -1), 0);
        Due.is("the greatest", meant(HALF_CUT, GREATEST), 4611686018427387903L);
        Due.is("the least", meant(HALF_CUT, LEAST), -4611686018427387904L);
        Due.is("one above the least", meant(HALF_CUT, LEAST + 1), -4611686018427387903L);
    }

    // "4 v by 2, the whole number not above"
    private static void promise17_meaningHalfBelow() {
        Due.is("7", meant(HALF_BELOW, 7), 3);
        Due.is("-7", meant(HALF_BELOW, -7), -4);
        Due.is("-8", meant(HALF_BELOW, -8), -4);
        Due.is("1", meant(HALF_BELOW, 1), 0);
        Due.is("-1", meant(HALF_BELOW, -1), -1);
        Due.is("the greatest", meant(HALF_BELOW, GREATEST), 4611686018427387903L);
        Due.is("the least", meant(HALF_BELOW, LEAST), -4611686018427387904L);
        Due.is("one above the least", meant(HALF_BELOW, LEAST + 1), -4611686018427387904L);
    }

    // "5 how many of its 64 bits are 1"
    private static void promise17_meaningOnes() {
        Due.is("0", meant(ONES, 0), 0);
        Due.is("-1", meant(ONES, -1), 64);
        Due.is("the least", meant(ONES, LEAST), 1);
        Due.is("the greatest", meant(ONES, GREATEST), 63);
        Due.is("2 to the 32nd", meant(ONES, 1L << 32), 1);
        Due.is("11", meant(ONES, 11), 3);
    }

    // "STORE takes the top into CELL 0 .. 3 .., FETCH lays that CELL"
    private static void promise17_eachCellIsStoredAndFetched() {
        EngineVersions x = new EngineVersions();
        int contract = deployed(x, PUSH, 10, PUSH, 11, PUSH, 12, PUSH, 13, STORE, 3, STORE, 2, STORE, 1, STORE, 0);
        x.run(contract, 0, 100);
        for (int cell = 0; cell <= 3; cell++) {
            Due.is("cell " + cell, x.cell(contract, cell), 10 + cell);
            EngineVersions y = new EngineVersions();
            int again = deployed(y, ARGUMENT, 0, STORE, cell, FETCH, cell, FETCH, cell, ADD, 0, STORE, (cell + 1) % 4);
            y.run(again, 21, 100);
            Due.is("fetched of " + cell, y.cell(again, (cell + 1) % 4), 42);
        }
    }

    private static void promise17_theLastOfTwoStoresHolds() {
        EngineVersions x = new EngineVersions();
        int contract = deployed(x, PUSH, 5, STORE, 2, PUSH, 8, STORE, 2);
        x.run(contract, 0, 100);
        Due.is("cell 2", x.cell(contract, 2), 8);
    }

    private static void promise17_cellsLastFromRunToRun() {
        EngineVersions x = new EngineVersions();
        int contract = deployed(x, FETCH, 0, ARGUMENT, 0, ADD, 0, STORE, 0);
        x.run(contract, 10, 100);
        x.run(contract, 5, 100);
        Due.is("cell 0", x.cell(contract, 0), 15);
    }

    // "a CONTRACT begins with nothing"
    private static void promise17_aRunBeginsWithNothing() {
        EngineVersions x = new EngineVersions();
        int leaves = deployed(x, PUSH, 77, PUSH, 78);
        int takes = deployed(x, ARGUMENT, 0, STORE, 0);
        x.run(leaves, 0, 100);
        Due.is("run", x.run(takes, 4, 100), 2);
        Due.is("cell 0", x.cell(takes, 0), 4);
    }

    private static void promise17_asManyLieThereAsActsCanLay() {
        EngineVersions x = new EngineVersions();
        int contract = x.contract();
        for (int i = 1; i <= 23; i++) {
            x.act(contract, PUSH, i);
        }
        x.act(contract, STORE, 0);
        x.deploy(contract);
        Due.is("run", x.run(contract, 0, 24), 24);
        Due.is("the top of 23", x.cell(contract, 0), 23);
    }

    private static void promise17_fromTheTopDown() {
        EngineVersions x = new EngineVersions();
        int contract = x.contract();
        long due = 12;
        for (int i = 1; i <= 12; i++) {
            x.act(contract, PUSH, i);
        }
        for (int lower = 11; lower >= 1; lower--) {
            x.act(contract, lower % 2 == 0 ? SUBTRACT : ADD, 0);
            due = lower % 2 == 0 ? lower - due : lower + due;
        }
        x.act(contract, STORE, 0);
        x.deploy(contract);
        Due.is("run", x.run(contract, 0, 24), 24);
        Due.is("cell 0", x.cell(contract, 0), due);
    }

    // "What finds something has changed no CELL"
    private static void promise17_whatFindsZeroChangesNoCell() {
        EngineVersions x = new EngineVersions();
        int contract = deployed(x, ARGUMENT, 0, STORE, 0, PUSH, 100, ARGUMENT, 0, DIVIDE, 0, STORE, 1);
        x.run(contract, 20, 100);
        Due.is("zero", x.run(contract, 0, 100), ZERO);
        Due.is("cell 0", x.cell(contract, 0), 20);
        Due.is("cell 1", x.cell(contract, 1), 5);
    }

    private static void promise17_whatFindsPriceChangesNoCell() {
        EngineVersions x = new EngineVersions();
        int contract = deployed(x, ARGUMENT, 0, STORE, 0, ARGUMENT, 0, STORE, 1);
        x.run(contract, 20, 100);
        for (int limit = 0; limit <= 3; limit++) {
            Due.is("limit " + limit, x.run(contract, 30, limit), PRICE);
            Due.is("cell 0", x.cell(contract, 0), 20);
            Due.is("cell 1", x.cell(contract, 1), 20);
        }
        Due.is("limit 4", x.run(contract, 30, 4), 4);
        Due.is("cell 1", x.cell(contract, 1), 30);
    }

    private static void promise17_theNextRunStartsFromWhatHeld() {
        EngineVersions x = new EngineVersions();
        int contract = deployed(x, FETCH, 0, PUSH, 1, ADD, 0, STORE, 0, PUSH, 1, ARGUMENT, 0, DIVIDE, 0);
        x.run(contract, 1, 100);
        x.run(contract, 0, 100);
        x.run(contract, 1, 4);
        x.run(contract, 1, 100);
        Due.is("two of four held", x.cell(contract, 0), 2);
    }

    // "its MEANINGS are meant for ever"
    private static void promise17_meaningsAreKept() {
        EngineVersions x = withEditions(1);
        x.member(1, 0, LESS);
        x.edition(1);
        x.member(2, 0, SQUARE);
        x.edition(0);
        putInForce(x, 1);
        int old = deployed(x, ARGUMENT, 0, CALL, 0, STORE, 0);
        putInForce(x, 2);
        int young = deployed(x, ARGUMENT, 0, CALL, 0, STORE, 0);
        x.run(old, 9, 100);
        x.run(young, 9, 100);
        Due.is("meaning of 1", x.cell(old, 0), -9);
        Due.is("meaning of 2", x.cell(young, 0), 81);
        putInForce(x, 3);
        x.run(old, 8, 100);
        x.run(young, 8, 100);
        Due.is("meaning of 1, though it is not there", x.cell(old, 0), -8);
        Due.is("meaning of 2, though it is not there", x.cell(young, 0), 64);
    }

    // "its PRICE in the EDITION in force"
    private static void promise17_pricesAreThoseInForce() {
        EngineVersions x = withEditions(2);
        x.price(1, PUSH, 10);
        x.price(2, PUSH, 0);
        int contract = deployed(x, PUSH, 1);
        Due.is("of 0", x.run(contract, 0, 100), 1);
        putInForce(x, 1);
        Due.is("of 1", x.run(contract, 0, 100), 10);
        Due.is("of 1, limit 9", x.run(contract, 0, 9), PRICE);
        putInForce(x, 2);
        Due.is("of 2, limit 0", x.run(contract, 0, 0), 0);
    }

    private static void promise17_pricesChangeAtTheHeight() {
        EngineVersions x = withEditions(1);
        x.price(1, PUSH, 10);
        x.propose(1, 5);
        int contract = deployed(x, PUSH, 1);
        x.rise(4);
        Due.is("one height ahead", x.run(contract, 0, 100), 1);
        x.rise(1);
        Due.is("at that height", x.run(contract, 0, 100), 10);
    }

    // "What is refused changes nothing."
    private static void promise17_whatIsRefusedChangesNothing() {
        refusedInTheScene("run(4, 1, 400)", BAD, x -> x.run(4, 1, 400));
        refusedInTheScene("run(0, 1, -1)", BAD, x -> x.run(0, 1, -1));
        refusedInTheScene("run(2, 1, 400)", NO, x -> x.run(2, 1, 400));
        refusedInTheScene("run(3, 1, 400)", NO, x -> x.run(3, 1, 400));
        refusedBehind(Promise17Test::fullLog, "run(0, 99, 400)", FULL, x -> x.run(0, 99, 400));
    }

    private static void fullLog(EngineVersions x) {
        int contract = deployed(x, ARGUMENT, 0, STORE, 0);
        for (int i = 1; i <= 64; i++) {
            x.run(contract, i, 2);
        }
    }
}

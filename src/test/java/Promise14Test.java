/** Promise 14: contract. */
public final class Promise14Test extends Bench {
    public static void main(String[] args) throws IllegalAccessException {
        Due.allTestsOf(Promise14Test.class);
    }

    // "CONTRACTS are numbered as they come"
    private static void promise14_numbersAsTheyCome() {
        EngineVersions x = new EngineVersions();
        Due.is("first", x.contract(), 0);
        Due.is("second", x.contract(), 1);
        Due.is("count(2)", x.count(2), 2);
    }

    // "FULL: above 12"
    private static void promise14_theTwelfthComesAndNoneAboveTwelve() {
        EngineVersions x = new EngineVersions();
        for (int number = 0; number <= 10; number++) {
            x.contract();
        }
        Due.is("the twelfth", x.contract(), 11);
        Due.is("the thirteenth", x.contract(), FULL);
        Due.is("again", x.contract(), FULL);
        Due.is("count(2)", x.count(2), 12);
    }

    // "each a row of ACTS .., open till it is DEPLOYED"
    private static void promise14_aNewOneIsEmptyAndOpen() {
        EngineVersions x = new EngineVersions();
        int contract = x.contract();
        Due.is("not deployed without acts", x.deploy(contract), NO);
        Due.is("does not run", x.run(contract, 0, 0), NO);
        for (int cell = 0; cell <= 3; cell++) {
            Due.is("cell " + cell, x.cell(contract, cell), 0);
        }
        Due.is("its first act", x.act(contract, PUSH, 1), 1);
    }

    private static void promise14_aNewOneHasNothingOfThoseBefore() {
        EngineVersions x = new EngineVersions();
        int before = deployed(x, PUSH, 9, STORE, 0);
        x.run(before, 0, 2);
        int behind = x.contract();
        Due.is("its cell", x.cell(behind, 0), 0);
        Due.is("its first act", x.act(behind, PUSH, 1), 1);
    }

    // "What is refused changes nothing."
    private static void promise14_whatIsRefusedChangesNothing() {
        refusedBehind(Promise14Test::twelveContracts, "contract()", FULL, x -> x.contract());
    }

    private static void twelveContracts(EngineVersions x) {
        scene(x);
        for (int number = 4; number <= 11; number++) {
            x.contract();
            x.act(number, PUSH, number);
        }
    }
}

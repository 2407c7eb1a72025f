/** Promise 18: cell. */
public final class Promise18Test extends Bench {
    public static void main(String[] args) throws IllegalAccessException {
        Due.allTestsOf(Promise18Test.class);
    }

    /** A contract whose cells are 10, 11, 12 and 13. */
    private static EngineVersions stored() {
        EngineVersions x = new EngineVersions();
        int contract = deployed(x, PUSH, 10, STORE, 0, PUSH, 11, STORE, 1, PUSH, 12, STORE, 2, PUSH, 13, STORE, 3);
        x.run(contract, 0, 8);
        return x;
    }

    // "A CELL of a CONTRACT."
    private static void promise18_cellsZeroToThree() {
        EngineVersions x = stored();
        for (int cell = 0; cell <= 3; cell++) {
            Due.is("cell(0, " + cell + ")", x.cell(0, cell), 10 + cell);
        }
    }

    // "BAD: 0."
    private static void promise18_zeroForACellThatIsNotThere() {
        EngineVersions x = stored();
        for (int wrong : new int[] {-1, 4, MIN, MAX}) {
            Due.is("cell(0, " + wrong + ")", x.cell(0, wrong), 0);
        }
    }

    private static void promise18_zeroForAContractThatIsNotThere() {
        EngineVersions x = stored();
        for (int wrong : new int[] {-1, 1, 11, 12, MIN, MAX}) {
            Due.is("cell(" + wrong + ", 0)", x.cell(wrong, 0), 0);
        }
        Due.is("neither is there", x.cell(-1, -1), 0);
    }

    private static void promise18_zeroBeforeAnythingIsStored() {
        EngineVersions x = new EngineVersions();
        int contract = x.contract();
        Due.is("without acts", x.cell(contract, 0), 0);
        x.act(contract, PUSH, 9);
        x.act(contract, STORE, 0);
        Due.is("open", x.cell(contract, 0), 0);
        x.deploy(contract);
        Due.is("deployed", x.cell(contract, 0), 0);
        x.run(contract, 0, 1);
        Due.is("found PRICE", x.cell(contract, 0), 0);
        x.run(contract, 0, 2);
        Due.is("stored", x.cell(contract, 0), 9);
    }

    private static void promise18_theLeastAndTheGreatestLong() {
        EngineVersions x = new EngineVersions();
        int contract = deployed(x, ARGUMENT, 0, STORE, 1);
        for (long value : new long[] {Long.MIN_VALUE, Long.MAX_VALUE, -1, 1L << 32, 0}) {
            x.run(contract, value, 2);
            Due.is("cell", x.cell(contract, 1), value);
        }
    }

    private static void promise18_eachContractHasItsOwn() {
        EngineVersions x = new EngineVersions();
        int one = deployed(x, ARGUMENT, 0, STORE, 1);
        int two = deployed(x, ARGUMENT, 0, STORE, 1);
        x.run(one, 7, 2);
        Due.is("of one", x.cell(one, 1), 7);
        Due.is("of two", x.cell(two, 1), 0);
        x.run(two, 8, 2);
        Due.is("of one yet", x.cell(one, 1), 7);
        Due.is("of two now", x.cell(two, 1), 8);
    }

    private static void promise18_theTwelfthContract() {
        EngineVersions x = new EngineVersions();
        for (int number = 0; number <= 11; number++) {
            deployed(x, PUSH, 100 + number, STORE, 3);
        }
        x.run(11, 0, 2);
        Due.is("cell(11, 3)", x.cell(11, 3), 111);
        Due.is("cell(10, 3)", x.cell(10, 3), 0);
        Due.is("cell(12, 3)", x.cell(12, 3), 0);
    }

    private static void promise18_askingChangesNothing() {
        refusedInTheScene("cell(4, 0)", 0, x -> x.cell(4, 0));
        refusedInTheScene("cell(0, 4)", 0, x -> x.cell(0, 4));
        refusedInTheScene("cell(0, 0)", 7, x -> x.cell(0, 0));
    }
}

/** Promise 7: node. */
public final class Promise07Test extends Bench {
    public static void main(String[] args) throws IllegalAccessException {
        Due.allTestsOf(Promise07Test.class);
    }

    // "NODES are numbered as they come"
    private static void promise07_numbersAsTheyCome() {
        EngineVersions x = new EngineVersions();
        Due.is("first", x.node(1, 1), 0);
        Due.is("second", x.node(1, 1), 1);
        Due.is("count(1)", x.count(1), 2);
    }

    // "weight 1 .. 1000"
    private static void promise07_leastWeightIsOne() {
        EngineVersions x = new EngineVersions();
        Due.is("weight 0", x.node(0, 1), BAD);
        Due.is("weight -1", x.node(-1, 1), BAD);
        Due.is("weight MIN", x.node(MIN, 1), BAD);
        Due.is("weight 1", x.node(1, 1), 0);
        Due.is("count(1)", x.count(1), 1);
    }

    private static void promise07_greatestWeightIsAThousand() {
        EngineVersions x = new EngineVersions();
        Due.is("weight 1001", x.node(1001, 1), BAD);
        Due.is("weight MAX", x.node(MAX, 1), BAD);
        Due.is("weight 1000", x.node(1000, 1), 0);
        Due.is("count(1)", x.count(1), 1);
    }

    // "build: bits of EDITIONS 0 .. 9"
    private static void promise07_leastBuildIsEmpty() {
        EngineVersions x = new EngineVersions();
        Due.is("build -1", x.node(1, -1), BAD);
        Due.is("build MIN", x.node(1, MIN), BAD);
        Due.is("build 0", x.node(1, 0), 0);
        x.rise(1);
        Due.is("it has no edition", x.halted(0), 1);
    }

    private static void promise07_greatestBuildHasAllTen() {
        EngineVersions x = new EngineVersions();
        Due.is("build 1024", x.node(1, 1024), BAD);
        Due.is("build 1025", x.node(1, 1025), BAD);
        Due.is("build MAX", x.node(1, MAX), BAD);
        Due.is("build 1023", x.node(1, 1023), 0);
        Due.is("build 512", x.node(1, 512), 1);
    }

    private static void promise07_eachBitIsAnEdition() {
        EngineVersions x = withEditions(9);
        for (int edition = 0; edition <= 9; edition++) {
            x.node(1, 1 << edition);
        }
        x.rise(1);
        for (int edition = 0; edition <= 9; edition++) {
            Due.is("bit " + edition, x.halted(edition), edition == 0 ? NONE : 1);
        }
        EngineVersions y = withEditions(9);
        for (int edition = 1; edition <= 9; edition++) {
            y.propose(edition, edition);
        }
        y.rise(8);
        y.node(1, 1 << 9);
        y.vote(0, 9, true);
        y.rise(1);
        Due.is("bit 9 alone, 9 in force", y.halted(0), NONE);
    }

    // A BUILD may have EDITIONS that are not there yet: only bits 0 .. 9 are named.
    private static void promise07_bitsOfEditionsToComeAreFine() {
        EngineVersions x = new EngineVersions();
        Due.is("build of 1 and 9", x.node(1, 1 + 2 + 512), 0);
        x.edition(0);
        x.propose(1, 1);
        x.vote(0, 1, true);
        x.rise(1);
        Due.is("it has 1", x.halted(0), NONE);
    }

    // "FULL: above 12"
    private static void promise07_theTwelfthComesAndNoneAboveTwelve() {
        EngineVersions x = new EngineVersions();
        for (int number = 0; number <= 10; number++) {
            x.node(1, 1);
        }
        Due.is("the twelfth", x.node(1, 1), 11);
        Due.is("the thirteenth", x.node(1, 1), FULL);
        Due.is("count(1)", x.count(1), 12);
    }

    // "the first that fits"
    private static void promise07_badComesBeforeFull() {
        EngineVersions x = new EngineVersions();
        for (int number = 0; number <= 11; number++) {
            x.node(1, 1);
        }
        Due.is("weight 0", x.node(0, 1), BAD);
        Due.is("weight 1001", x.node(1001, 1), BAD);
        Due.is("build -1", x.node(1, -1), BAD);
        Due.is("build 1024", x.node(1, 1024), BAD);
    }

    // "What is refused changes nothing."
    private static void promise07_whatIsRefusedChangesNothing() {
        refusedInTheScene("node(0, 1)", BAD, x -> x.node(0, 1));
        refusedInTheScene("node(1001, 1)", BAD, x -> x.node(1001, 1));
        refusedInTheScene("node(1, 1024)", BAD, x -> x.node(1, 1024));
        refusedInTheScene("node(1, -1)", BAD, x -> x.node(1, -1));
        refusedBehind(Promise07Test::twelveNodes, "node(1000, 1)", FULL, x -> x.node(1000, 1));
    }

    private static void twelveNodes(EngineVersions x) {
        scene(x);
        for (int number = 3; number <= 11; number++) {
            x.node(1, ALL);
        }
        for (int number = 3; number <= 11; number++) {
            x.vote(number, 3, true);
        }
    }
}

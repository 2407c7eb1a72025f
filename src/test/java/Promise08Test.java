/** Promise 8: build. */
public final class Promise08Test extends Bench {
    public static void main(String[] args) throws IllegalAccessException {
        Due.allTestsOf(Promise08Test.class);
    }

    // "The BUILD of a NODE becomes another one: 1."
    private static void promise08_becomesAnotherOne() {
        EngineVersions x = new EngineVersions();
        x.node(1, 0);
        x.node(1, 1);
        Due.is("gets edition 0", x.build(0, 1), 1);
        Due.is("loses edition 0", x.build(1, 2), 1);
        x.rise(1);
        Due.is("0 goes on", x.halted(0), NONE);
        Due.is("1 is halted", x.halted(1), 1);
    }

    // It becomes another one: it is not joined with the one before.
    private static void promise08_nothingIsLeftOfTheOneBefore() {
        EngineVersions x = new EngineVersions();
        x.node(1, 1);
        x.build(0, 1022);
        x.rise(1);
        Due.is("halted", x.halted(0), 1);
    }

    private static void promise08_theSameAgain() {
        EngineVersions x = new EngineVersions();
        x.node(1, 1);
        Due.is("the same build", x.build(0, 1), 1);
        x.rise(1);
        Due.is("it goes on", x.halted(0), NONE);
    }

    // "bits of EDITIONS 0 .. 9"
    private static void promise08_leastBuildIsEmpty() {
        EngineVersions x = new EngineVersions();
        x.node(1, 1);
        Due.is("build -1", x.build(0, -1), BAD);
        Due.is("build MIN", x.build(0, MIN), BAD);
        Due.is("build 0", x.build(0, 0), 1);
        x.rise(1);
        Due.is("it has no edition", x.halted(0), 1);
    }

    private static void promise08_greatestBuildHasAllTen() {
        EngineVersions x = new EngineVersions();
        x.node(1, 0);
        Due.is("build 1024", x.build(0, 1024), BAD);
        Due.is("build 1025", x.build(0, 1025), BAD);
        Due.is("build MAX", x.build(0, MAX), BAD);
        Due.is("build 1023", x.build(0, 1023), 1);
        x.rise(1);
        Due.is("it has edition 0", x.halted(0), NONE);
    }

    private static void promise08_badNodeThatIsNotThere() {
        EngineVersions x = new EngineVersions();
        Due.is("without nodes", x.build(0, 1), BAD);
        x.node(1, 1);
        for (int wrong : new int[] {-1, 1, 11, 12, MIN, MAX}) {
            Due.is("build(" + wrong + ", 1)", x.build(wrong, 1), BAD);
        }
    }

    private static void promise08_theTwelfthNodeMayChange() {
        EngineVersions x = new EngineVersions();
        for (int number = 0; number <= 11; number++) {
            x.node(1, 1);
        }
        Due.is("build(11, 0)", x.build(11, 0), 1);
        Due.is("build(12, 0)", x.build(12, 0), BAD);
        x.rise(1);
        Due.is("halted(11)", x.halted(11), 1);
        Due.is("halted(10)", x.halted(10), NONE);
    }

    // "NO: it is HALTED"
    private static void promise08_noForAHaltedNode() {
        EngineVersions x = new EngineVersions();
        x.node(1, 0);
        Due.is("before it is halted", x.build(0, 2), 1);
        x.rise(1);
        Due.is("as it is halted", x.build(0, ALL), NO);
        x.rise(1);
        Due.is("it stays halted", x.build(0, ALL), NO);
        Due.is("where it was", x.halted(0), 1);
    }

    // "as that HEIGHT is come to": not before the next height.
    private static void promise08_aBuildThatLacksHaltsAtTheNextHeight() {
        EngineVersions x = new EngineVersions();
        x.node(1, 1);
        x.rise(3);
        x.build(0, 0);
        Due.is("not yet", x.halted(0), NONE);
        x.rise(1);
        Due.is("at the next height", x.halted(0), 4);
    }

    private static void promise08_aBuildPutRightInTimeDoesNotHalt() {
        EngineVersions x = new EngineVersions();
        x.node(1, 1);
        x.build(0, 0);
        x.build(0, 1);
        x.rise(1);
        Due.is("it goes on", x.halted(0), NONE);
    }

    // "the first that fits"
    private static void promise08_badComesBeforeNo() {
        EngineVersions x = new EngineVersions();
        x.node(1, 0);
        x.rise(1);
        Due.is("build 1024", x.build(0, 1024), BAD);
        Due.is("build -1", x.build(0, -1), BAD);
    }

    // "What is refused changes nothing."
    private static void promise08_whatIsRefusedChangesNothing() {
        refusedInTheScene("build(3, 1)", BAD, x -> x.build(3, 1));
        refusedInTheScene("build(0, 1024)", BAD, x -> x.build(0, 1024));
        refusedInTheScene("build(0, -1)", BAD, x -> x.build(0, -1));
        refusedInTheScene("build(2, 1023)", NO, x -> x.build(2, ALL));
    }
}

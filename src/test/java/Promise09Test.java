/** Promise 9: propose. */
public final class Promise09Test extends Bench {
    public static void main(String[] args) throws IllegalAccessException {
        Due.allTestsOf(Promise09Test.class);
    }

    // "An EDITION is PROPOSED for a HEIGHT: 1."
    private static void promise09_isProposed() {
        EngineVersions x = withEditions(1);
        Due.is("propose(1, 5)", x.propose(1, 5), 1);
        Due.is("its height", x.about(1, 2, 0), 5);
        Due.is("its state", x.about(1, 3, 0), PROPOSED);
    }

    // "BAD: HEIGHT above 1000"
    private static void promise09_greatestHeightIsAThousand() {
        EngineVersions x = withEditions(1);
        Due.is("propose(1, 1001)", x.propose(1, 1001), BAD);
        Due.is("propose(1, MAX)", x.propose(1, MAX), BAD);
        Due.is("propose(1, 1000)", x.propose(1, 1000), 1);
    }

    // "for a HEIGHT above the present one"
    private static void promise09_noForThePresentHeight() {
        EngineVersions x = withEditions(1);
        Due.is("propose(1, 0)", x.propose(1, 0), NO);
        x.rise(10);
        Due.is("propose(1, 10)", x.propose(1, 10), NO);
        Due.is("propose(1, 9)", x.propose(1, 9), NO);
        Due.is("propose(1, 11)", x.propose(1, 11), 1);
    }

    private static void promise09_leastHeightIsOneAboveThePresent() {
        EngineVersions x = withEditions(1);
        Due.is("propose(1, 1)", x.propose(1, 1), 1);
    }

    // A HEIGHT below 0 is not above; BAD names only those above 1000.
    private static void promise09_noForHeightsBelowZero() {
        EngineVersions x = withEditions(1);
        Due.is("propose(1, -1)", x.propose(1, -1), NO);
        Due.is("propose(1, MIN)", x.propose(1, MIN), NO);
    }

    // "and above each for which one is PROPOSED"
    private static void promise09_noForTheHeightOfAnotherOne() {
        EngineVersions x = withEditions(2);
        x.propose(1, 5);
        Due.is("the same", x.propose(2, 5), NO);
        Due.is("one below", x.propose(2, 4), NO);
        Due.is("one above", x.propose(2, 6), 1);
    }

    private static void promise09_aboveEachNotOnlyTheLast() {
        EngineVersions x = withEditions(4);
        x.propose(3, 5);
        x.propose(1, 9);
        Due.is("between them", x.propose(2, 7), NO);
        Due.is("as the higher one", x.propose(2, 9), NO);
        Due.is("above both", x.propose(2, 10), 1);
        Due.is("above all three", x.propose(4, 10), NO);
    }

    private static void promise09_nothingIsAboveAThousand() {
        EngineVersions x = withEditions(2);
        x.propose(1, 1000);
        Due.is("propose(2, 1000)", x.propose(2, 1000), NO);
        Due.is("propose(2, 999)", x.propose(2, 999), NO);
        Due.is("propose(2, 1001)", x.propose(2, 1001), BAD);
    }

    private static void promise09_noneMoreOnceTheHeightIsAThousand() {
        EngineVersions x = withEditions(1);
        riseTo(x, 999);
        Due.is("at 999", x.propose(1, 999), NO);
        riseTo(x, 1000);
        Due.is("at 1000", x.propose(1, 1000), NO);
        Due.is("above", x.propose(1, 1001), BAD);
    }

    // Refused proposals have no HEIGHT that others must be above.
    private static void promise09_refusedOnesDoNotStandInTheWay() {
        EngineVersions x = withEditions(2);
        x.propose(1, 1001);
        x.propose(0, 800);
        Due.is("propose(2, 1)", x.propose(2, 1), 1);
    }

    private static void promise09_oneThatIsOverDoesNotStandInTheWay() {
        EngineVersions x = withEditions(2);
        x.node(1, ALL);
        x.propose(1, 3);
        x.rise(3);
        Due.is("1 is over", x.about(1, 3, 0), OVER);
        Due.is("propose(2, 3)", x.propose(2, 3), NO);
        Due.is("propose(2, 4)", x.propose(2, 4), 1);
    }

    private static void promise09_allNineAtOnce() {
        EngineVersions x = withEditions(9);
        for (int edition = 9; edition >= 1; edition--) {
            Due.is("propose(" + edition + ", ..)", x.propose(edition, 10 - edition), 1);
        }
        x.rise(9);
        Due.is("the last", x.force(9), 1);
        Due.is("the first", x.force(1), 9);
    }

    // "NO: it is 0"
    private static void promise09_noEditionZero() {
        EngineVersions x = new EngineVersions();
        Due.is("propose(0, 5)", x.propose(0, 5), NO);
        Due.is("propose(0, 0)", x.propose(0, 0), NO);
        Due.is("its height", x.about(0, 2, 0), 0);
        x.rise(5);
        Due.is("its height later", x.about(0, 2, 0), 0);
    }

    // "or was PROPOSED"
    private static void promise09_noASecondTime() {
        EngineVersions x = withEditions(1);
        x.propose(1, 5);
        Due.is("for the same height", x.propose(1, 5), NO);
        Due.is("for a higher one", x.propose(1, 6), NO);
        Due.is("for a lower one", x.propose(1, 4), NO);
        Due.is("its height", x.about(1, 2, 0), 5);
    }

    private static void promise09_noForOneThatCameInForce() {
        EngineVersions x = withEditions(2);
        putInForce(x, 1);
        Due.is("in force", x.propose(1, 5), NO);
        putInForce(x, 2);
        Due.is("no longer in force", x.propose(1, 5), NO);
    }

    private static void promise09_noForOneThatIsOver() {
        EngineVersions x = withEditions(1);
        x.node(1, ALL);
        x.propose(1, 1);
        x.rise(1);
        Due.is("propose(1, 5)", x.propose(1, 5), NO);
        Due.is("its height", x.about(1, 2, 0), 1);
        Due.is("its state", x.about(1, 3, 0), OVER);
    }

    private static void promise09_badEditionThatIsNotThere() {
        EngineVersions x = withEditions(1);
        for (int wrong : new int[] {-1, 2, 9, 10, MIN, MAX}) {
            Due.is("propose(" + wrong + ", 5)", x.propose(wrong, 5), BAD);
        }
    }

    // "the first that fits"
    private static void promise09_badComesBeforeNo() {
        EngineVersions x = withEditions(1);
        x.propose(1, 5);
        Due.is("edition 0", x.propose(0, 1001), BAD);
        Due.is("a second time", x.propose(1, 1001), BAD);
        Due.is("not there, not above", x.propose(2, 0), BAD);
    }

    // "What is refused changes nothing."
    private static void promise09_whatIsRefusedChangesNothing() {
        refusedInTheScene("propose(4, 1001)", BAD, x -> x.propose(4, 1001));
        refusedInTheScene("propose(5, 9)", BAD, x -> x.propose(5, 9));
        refusedInTheScene("propose(4, 8)", NO, x -> x.propose(4, 8));
        refusedInTheScene("propose(4, 4)", NO, x -> x.propose(4, 4));
        for (int edition = 0; edition <= 3; edition++) {
            int refused = edition;
            refusedInTheScene("propose(" + edition + ", 9)", NO, x -> x.propose(refused, 9));
        }
    }
}

/** Promise 12: force. */
public final class Promise12Test extends Bench {
    public static void main(String[] args) throws IllegalAccessException {
        Due.allTestsOf(Promise12Test.class);
    }

    // "EDITION 0 is in force from 0 on."
    private static void promise12_editionZeroTillAnotherOne() {
        EngineVersions x = new EngineVersions();
        Due.is("force(0)", x.force(0), 0);
        x.rise(100);
        Due.is("force(0) later", x.force(0), 0);
        Due.is("force(100)", x.force(100), 0);
    }

    // "(0 .. the present one)"
    private static void promise12_badBelowZero() {
        EngineVersions x = new EngineVersions();
        Due.is("force(-1)", x.force(-1), BAD);
        Due.is("force(MIN)", x.force(MIN), BAD);
        x.rise(5);
        Due.is("force(-1) later", x.force(-1), BAD);
    }

    private static void promise12_badAboveThePresentOne() {
        EngineVersions x = new EngineVersions();
        Due.is("force(1) at 0", x.force(1), BAD);
        x.rise(5);
        Due.is("force(5) at 5", x.force(5), 0);
        Due.is("force(6) at 5", x.force(6), BAD);
        Due.is("force(MAX)", x.force(MAX), BAD);
    }

    private static void promise12_whatIsToComeIsNotTold() {
        EngineVersions x = withEditions(1);
        x.propose(1, 3);
        x.rise(2);
        Due.is("force(3) at 2", x.force(3), BAD);
        Due.is("force(2) at 2", x.force(2), 0);
    }

    private static void promise12_theGreatestHeight() {
        EngineVersions x = withEditions(1);
        x.propose(1, 1000);
        riseTo(x, 1000);
        Due.is("force(999)", x.force(999), 0);
        Due.is("force(1000)", x.force(1000), 1);
        Due.is("force(1001)", x.force(1001), BAD);
    }

    // "it is in force from this HEIGHT on"
    private static void promise12_fromItsHeightOn() {
        EngineVersions x = withEditions(1);
        x.propose(1, 3);
        x.rise(9);
        Due.is("force(2)", x.force(2), 0);
        Due.is("force(3)", x.force(3), 1);
        Due.is("force(4)", x.force(4), 1);
        Due.is("force(9)", x.force(9), 1);
    }

    // "else it is over"
    private static void promise12_oneThatIsOverIsNeverInForce() {
        EngineVersions x = withEditions(2);
        putInForce(x, 1);
        x.node(1, ALL);
        x.propose(2, 3);
        x.rise(5);
        Due.is("2 is over", x.about(2, 3, 0), OVER);
        for (int height = 1; height <= 6; height++) {
            Due.is("force(" + height + ")", x.force(height), 1);
        }
    }

    private static void promise12_oneHeightEach() {
        EngineVersions x = withEditions(9);
        for (int edition = 1; edition <= 9; edition++) {
            x.propose(edition, edition);
        }
        x.rise(10);
        for (int height = 0; height <= 9; height++) {
            Due.is("force(" + height + ")", x.force(height), height);
        }
        Due.is("force(10)", x.force(10), 9);
    }

    // Numbers tell when editions came, not when they come in force.
    private static void promise12_numbersNotInTheOrderOfHeights() {
        EngineVersions x = withEditions(9);
        x.propose(9, 1);
        x.propose(5, 3);
        x.propose(7, 5);
        x.propose(2, 6);
        x.rise(8);
        int[] due = {0, 9, 9, 5, 5, 7, 2, 2, 2};
        for (int height = 0; height < due.length; height++) {
            Due.is("force(" + height + ")", x.force(height), due[height]);
        }
    }

    private static void promise12_askingChangesNothing() {
        refusedInTheScene("force(5)", BAD, x -> x.force(5));
        refusedInTheScene("force(-1)", BAD, x -> x.force(-1));
        refusedInTheScene("force(1)", 0, x -> x.force(1));
    }
}

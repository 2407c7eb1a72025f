/** Promise 13: halted. */
public final class Promise13Test extends Bench {
    public static void main(String[] args) throws IllegalAccessException {
        Due.allTestsOf(Promise13Test.class);
    }

    // "NONE"
    private static void promise13_noneAsLongAsItHasTheEditions() {
        EngineVersions x = withEditions(1);
        x.node(1, 1 + 2);
        x.propose(1, 3);
        x.vote(0, 1, true);
        x.rise(10);
        Due.is("1 is in force", x.force(3), 1);
        Due.is("halted(0)", x.halted(0), NONE);
    }

    // "Where a NODE is HALTED"
    private static void promise13_whereTheEditionThatItLacksCame() {
        EngineVersions x = withEditions(1);
        x.node(1, 1);
        x.propose(1, 3);
        x.vote(0, 1, true);
        x.rise(2);
        Due.is("one height ahead", x.halted(0), NONE);
        x.rise(1);
        Due.is("at that height", x.halted(0), 3);
    }

    private static void promise13_whereOnTheWayOfALongRise() {
        EngineVersions x = withEditions(2);
        x.node(6, ALL);
        x.node(1, 1);
        x.node(1, 1 + 2);
        x.propose(1, 5);
        x.propose(2, 7);
        x.vote(0, 1, true);
        x.vote(0, 2, true);
        x.rise(100);
        Due.is("it has all", x.halted(0), NONE);
        Due.is("it lacks 1", x.halted(1), 5);
        Due.is("it lacks 2", x.halted(2), 7);
    }

    // "and stays so"
    private static void promise13_staysHaltedThoughALaterEditionIsInItsBuild() {
        EngineVersions x = withEditions(2);
        x.node(1, 1 + 4);
        x.node(2, ALL);
        x.propose(1, 3);
        x.propose(2, 4);
        x.vote(1, 1, true);
        x.vote(1, 2, true);
        x.rise(4);
        Due.is("2 is in force", x.force(4), 2);
        Due.is("halted where 1 came", x.halted(0), 3);
        x.rise(96);
        Due.is("for ever", x.halted(0), 3);
    }

    // "as that HEIGHT is come to": the present height is not come to again.
    private static void promise13_notAtTheHeightAtWhichItComes() {
        EngineVersions x = new EngineVersions();
        x.node(1, 0);
        Due.is("at height 0", x.halted(0), NONE);
        x.rise(5);
        Due.is("at the next height", x.halted(0), 1);
        x.node(1, 0);
        Due.is("at height 5", x.halted(1), NONE);
        x.rise(1);
        Due.is("at height 6", x.halted(1), 6);
    }

    private static void promise13_editionZeroHaltsToo() {
        EngineVersions x = new EngineVersions();
        x.node(1, 1022);
        x.node(1, 1);
        x.rise(4);
        Due.is("it lacks 0", x.halted(0), 1);
        Due.is("it has 0", x.halted(1), NONE);
    }

    // Only the EDITION in force matters, not those before it, nor those that are over.
    private static void promise13_onlyTheEditionInForceMatters() {
        EngineVersions x = withEditions(2);
        putInForce(x, 1);
        x.node(1, 2);
        x.rise(1);
        Due.is("it lacks 0, 1 is in force", x.halted(0), NONE);
        x.propose(2, 3);
        x.rise(2);
        Due.is("2 is over", x.about(2, 3, 0), OVER);
        Due.is("it lacks 2, which is over", x.halted(0), NONE);
    }

    private static void promise13_theGreatestHeight() {
        EngineVersions x = new EngineVersions();
        riseTo(x, 999);
        x.node(1, 0);
        x.rise(1);
        Due.is("halted(0)", x.halted(0), 1000);
        x.node(1, 0);
        Due.is("rise(1)", x.rise(1), FULL);
        Due.is("no height to come", x.halted(1), NONE);
    }

    // "BAD"
    private static void promise13_badNodeThatIsNotThere() {
        EngineVersions x = new EngineVersions();
        Due.is("without nodes", x.halted(0), BAD);
        x.node(1, 1);
        for (int wrong : new int[] {-1, 1, 11, 12, MIN, MAX}) {
            Due.is("halted(" + wrong + ")", x.halted(wrong), BAD);
        }
    }

    private static void promise13_theTwelfthNode() {
        EngineVersions x = new EngineVersions();
        for (int number = 0; number <= 11; number++) {
            x.node(1, number == 11 ? 0 : 1);
        }
        x.rise(1);
        Due.is("halted(10)", x.halted(10), NONE);
        Due.is("halted(11)", x.halted(11), 1);
        Due.is("halted(12)", x.halted(12), BAD);
    }

    private static void promise13_askingChangesNothing() {
        refusedInTheScene("halted(3)", BAD, x -> x.halted(3));
        refusedInTheScene("halted(2)", 3, x -> x.halted(2));
        refusedInTheScene("halted(0)", NONE, x -> x.halted(0));
    }
}

/** Promise 5: about. */
public final class Promise05Test extends Bench {
    public static void main(String[] args) throws IllegalAccessException {
        Due.allTestsOf(Promise05Test.class);
    }

    // "the PRICE of ACT k (what 0)"
    private static void promise05_pricesOfActsZeroToEight() {
        EngineVersions x = withEditions(1);
        for (int act = 0; act <= 8; act++) {
            x.price(1, act, 90 + act);
        }
        for (int act = 0; act <= 8; act++) {
            Due.is("about(1, 0, " + act + ")", x.about(1, 0, act), 90 + act);
        }
    }

    private static void promise05_badActThatIsNotThere() {
        EngineVersions x = withEditions(1);
        for (int wrong : new int[] {-1, 9, MIN, MAX}) {
            Due.is("about(1, 0, " + wrong + ")", x.about(1, 0, wrong), BAD);
        }
    }

    // "the MEANING of MEMBER k (1; NONE)"
    private static void promise05_meaningsOfMembersZeroToSeven() {
        EngineVersions x = withEditions(1);
        x.member(1, 0, ONES);
        x.member(1, 7, SIZE);
        Due.is("about(1, 1, 0)", x.about(1, 1, 0), ONES);
        Due.is("about(1, 1, 7)", x.about(1, 1, 7), SIZE);
        Due.is("about(1, 1, 1)", x.about(1, 1, 1), NONE);
        Due.is("about(1, 1, 6)", x.about(1, 1, 6), NONE);
    }

    private static void promise05_badMemberThatIsNotThere() {
        EngineVersions x = withEditions(1);
        for (int wrong : new int[] {-1, 8, MIN, MAX}) {
            Due.is("about(1, 1, " + wrong + ")", x.about(1, 1, wrong), BAD);
        }
    }

    // "the HEIGHT for which it is PROPOSED (2; NONE; of EDITION 0: 0)"
    private static void promise05_noHeightTillItIsProposed() {
        EngineVersions x = withEditions(1);
        Due.is("open", x.about(1, 2, 0), NONE);
        x.propose(1, 0);
        Due.is("refused", x.about(1, 2, 0), NONE);
        x.propose(1, 7);
        Due.is("proposed", x.about(1, 2, 0), 7);
    }

    private static void promise05_leastAndGreatestHeight() {
        EngineVersions x = withEditions(2);
        x.propose(1, 1);
        x.propose(2, 1000);
        Due.is("of 1", x.about(1, 2, 0), 1);
        Due.is("of 2", x.about(2, 2, 0), 1000);
    }

    private static void promise05_theHeightStaysOnceItIsComeTo() {
        EngineVersions x = withEditions(2);
        x.propose(1, 2);
        x.propose(2, 3);
        x.rise(2);
        Due.is("in force", x.about(1, 2, 0), 2);
        x.node(1, ALL);
        x.rise(2);
        Due.is("still in force", x.about(1, 2, 0), 2);
        Due.is("over", x.about(2, 2, 0), 3);
    }

    private static void promise05_theHeightOfEditionZeroIsZero() {
        EngineVersions x = withEditions(1);
        Due.is("at first", x.about(0, 2, 0), 0);
        putInForce(x, 1);
        Due.is("behind another one", x.about(0, 2, 0), 0);
    }

    // "0 open, 1 PROPOSED, 2 it was in force from there on, 3 over (3)"
    private static void promise05_openThenProposedTillTheHeightThenInForce() {
        EngineVersions x = withEditions(1);
        Due.is("open", x.about(1, 3, 0), OPEN);
        x.propose(1, 5);
        Due.is("proposed", x.about(1, 3, 0), PROPOSED);
        x.rise(4);
        Due.is("one height ahead", x.about(1, 3, 0), PROPOSED);
        x.rise(1);
        Due.is("at that height", x.about(1, 3, 0), IN_FORCE);
    }

    private static void promise05_overFromTheHeightOn() {
        EngineVersions x = withEditions(1);
        x.node(1, ALL);
        x.propose(1, 5);
        x.rise(4);
        Due.is("one height ahead", x.about(1, 3, 0), PROPOSED);
        x.rise(1);
        Due.is("at that height", x.about(1, 3, 0), OVER);
        x.rise(1);
        Due.is("behind it", x.about(1, 3, 0), OVER);
    }

    // "it was in force from there on": also when another one has come since.
    private static void promise05_itWasInForceThoughAnotherOneIs() {
        EngineVersions x = withEditions(2);
        putInForce(x, 1);
        putInForce(x, 2);
        Due.is("0", x.about(0, 3, 0), IN_FORCE);
        Due.is("1", x.about(1, 3, 0), IN_FORCE);
        Due.is("2", x.about(2, 3, 0), IN_FORCE);
    }

    // "k no matter"
    private static void promise05_kIsNoMatterForHeightAndState() {
        EngineVersions x = withEditions(1);
        x.propose(1, 7);
        for (int k : new int[] {-1, 0, 8, 9, 100, MIN, MAX}) {
            Due.is("about(1, 2, " + k + ")", x.about(1, 2, k), 7);
            Due.is("about(1, 3, " + k + ")", x.about(1, 3, k), PROPOSED);
            Due.is("about(0, 2, " + k + ")", x.about(0, 2, k), 0);
            Due.is("about(0, 3, " + k + ")", x.about(0, 3, k), IN_FORCE);
        }
    }

    // "BAD": what
    private static void promise05_badWhat() {
        EngineVersions x = new EngineVersions();
        for (int wrong : new int[] {-1, 4, MIN, MAX}) {
            Due.is("about(0, " + wrong + ", 0)", x.about(0, wrong, 0), BAD);
        }
    }

    // "BAD": no such edition
    private static void promise05_badEditionThatIsNotThere() {
        EngineVersions x = withEditions(1);
        for (int wrong : new int[] {-1, 2, 9, 10, MIN, MAX}) {
            for (int what = 0; what <= 3; what++) {
                Due.is("about(" + wrong + ", " + what + ", 0)", x.about(wrong, what, 0), BAD);
            }
        }
    }

    private static void promise05_askingChangesNothing() {
        refusedInTheScene("about(4, 0, 9)", BAD, x -> x.about(4, 0, 9));
        refusedInTheScene("about(5, 2, 0)", BAD, x -> x.about(5, 2, 0));
        refusedInTheScene("about(3, 3, 0)", PROPOSED, x -> x.about(3, 3, 0));
    }
}

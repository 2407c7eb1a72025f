/** Promise 11: rise. */
public final class Promise11Test extends Bench {
    public static void main(String[] args) throws IllegalAccessException {
        Due.allTestsOf(Promise11Test.class);
    }

    private static int[] weights(int... weights) {
        return weights;
    }

    /** What becomes of edition 1 if the first so many of the nodes vote for it. */
    private static int stateAfter(int voters, int[] weights) {
        EngineVersions x = withEditions(1);
        x.propose(1, 1);
        for (int node = 0; node < weights.length; node++) {
            x.node(weights[node], ALL);
            if (node < voters) {
                x.vote(node, 1, true);
            }
        }
        x.rise(1);
        return x.about(1, 3, 0);
    }

    // "HEIGHT grows by n ..: HEIGHT."
    private static void promise11_growsByN() {
        EngineVersions x = new EngineVersions();
        Due.is("rise(7)", x.rise(7), 7);
        Due.is("rise(3)", x.rise(3), 10);
        Due.is("count(4)", x.count(4), 10);
    }

    // "(1 .. 100"
    private static void promise11_leastRiseIsOne() {
        EngineVersions x = new EngineVersions();
        Due.is("rise(0)", x.rise(0), BAD);
        Due.is("rise(-1)", x.rise(-1), BAD);
        Due.is("rise(MIN)", x.rise(MIN), BAD);
        Due.is("count(4)", x.count(4), 0);
        Due.is("rise(1)", x.rise(1), 1);
    }

    private static void promise11_greatestRiseIsAHundred() {
        EngineVersions x = new EngineVersions();
        Due.is("rise(101)", x.rise(101), BAD);
        Due.is("rise(MAX)", x.rise(MAX), BAD);
        Due.is("count(4)", x.count(4), 0);
        Due.is("rise(100)", x.rise(100), 100);
    }

    // "to 1000 at most", "FULL: above 1000"
    private static void promise11_toAThousandAndNotAbove() {
        EngineVersions x = new EngineVersions();
        for (int hundred = 1; hundred <= 9; hundred++) {
            x.rise(100);
        }
        Due.is("to 1000", x.rise(100), 1000);
        Due.is("rise(1)", x.rise(1), FULL);
        Due.is("rise(100)", x.rise(100), FULL);
        Due.is("count(4)", x.count(4), 1000);
    }

    private static void promise11_fullByOne() {
        EngineVersions x = new EngineVersions();
        riseTo(x, 901);
        Due.is("to 1001", x.rise(100), FULL);
        Due.is("count(4)", x.count(4), 901);
        Due.is("to 1000", x.rise(99), 1000);
    }

    // "What is refused changes nothing": not a part of the way either.
    private static void promise11_fullIsRefusedWhole() {
        EngineVersions x = withEditions(2);
        riseTo(x, 950);
        x.node(1, 0);
        x.propose(1, 960);
        x.propose(2, 1000);
        Due.is("rise(51)", x.rise(51), FULL);
        Due.is("count(4)", x.count(4), 950);
        Due.is("1 is not decided", x.about(1, 3, 0), PROPOSED);
        Due.is("2 is not decided", x.about(2, 3, 0), PROPOSED);
        Due.is("the node is not halted", x.halted(0), NONE);
        Due.is("rise(50)", x.rise(50), 1000);
        Due.is("2 is decided", x.about(2, 3, 0), OVER);
    }

    // "the first that fits"
    private static void promise11_badComesBeforeFull() {
        EngineVersions x = new EngineVersions();
        riseTo(x, 1000);
        Due.is("rise(0)", x.rise(0), BAD);
        Due.is("rise(101)", x.rise(101), BAD);
    }

    // "one by one"
    private static void promise11_eachHeightOnTheWayIsComeTo() {
        EngineVersions x = withEditions(3);
        x.propose(1, 1);
        x.propose(2, 50);
        x.propose(3, 100);
        x.rise(100);
        int[][] due = {{0, 0}, {1, 1}, {49, 1}, {50, 2}, {99, 2}, {100, 3}};
        for (int[] row : due) {
            Due.is("force(" + row[0] + ")", x.force(row[0]), row[1]);
        }
    }

    // A node that an edition halts on the way has no vote at a later height of the same rise.
    private static void promise11_whoIsHaltedOnTheWayVotesNoMore() {
        EngineVersions x = withEditions(2);
        x.node(3, 1 + 4);
        x.node(3, ALL);
        x.propose(1, 1);
        x.propose(2, 2);
        for (int node = 0; node <= 1; node++) {
            x.vote(node, 1, true);
            x.vote(node, 2, true);
        }
        x.rise(2);
        Due.is("1 is in force", x.about(1, 3, 0), IN_FORCE);
        Due.is("0 is halted by it", x.halted(0), 1);
        Due.is("2 is over", x.about(2, 3, 0), OVER);
    }

    // "together 3 times are not below 2 times those of all NODES"
    private static void promise11_twoThirdsAreEnough() {
        Due.is("2 of 3", stateAfter(1, weights(2, 1)), IN_FORCE);
        Due.is("200 of 300", stateAfter(1, weights(200, 100)), IN_FORCE);
        Due.is("8000 of 12000", stateAfter(8, weights(1000, 1000, 1000, 1000, 1000, 1000, 1000, 1000, 1000, 1000, 1000, 1000)), IN_FORCE);
    }

    private static void promise11_justBelowTwoThirdsIsOver() {
        Due.is("199 of 299", stateAfter(1, weights(199, 100)), OVER);
        Due.is("200 of 301", stateAfter(1, weights(200, 101)), OVER);
        Due.is("199 of 300", stateAfter(1, weights(199, 101)), OVER);
        Due.is("7999 of 11999", stateAfter(8, weights(999, 1000, 1000, 1000, 1000, 1000, 1000, 1000, 1000, 1000, 1000, 1000)), OVER);
    }

    private static void promise11_justAboveTwoThirdsIsEnough() {
        Due.is("201 of 301", stateAfter(1, weights(201, 100)), IN_FORCE);
        Due.is("199 of 298", stateAfter(1, weights(199, 99)), IN_FORCE);
        Due.is("8000 of 11999", stateAfter(8, weights(1000, 1000, 1000, 1000, 1000, 1000, 1000, 1000, 1000, 1000, 1000, 999)), IN_FORCE);
    }

    private static void promise11_allOrNobody() {
        Due.is("1 of 1", stateAfter(1, weights(1)), IN_FORCE);
        Due.is("0 of 1", stateAfter(0, weights(1)), OVER);
        Due.is("0 of 12000", stateAfter(0, weights(1000, 1000, 1000, 1000, 1000, 1000, 1000, 1000, 1000, 1000, 1000, 1000)), OVER);
    }

    // WEIGHTS count, not how many vote.
    private static void promise11_weightsNotHeads() {
        Due.is("1 heavy one of 3", stateAfter(1, weights(1000, 250, 250)), IN_FORCE);
        Due.is("11 light ones of 12", stateAfter(11, weights(1, 1, 1, 1, 1, 1, 1, 1, 1, 1, 1, 1000)), OVER);
    }

    // "those of all NODES": as they are when the height is come to.
    private static void promise11_nodesThatCameBehindTheProposalCount() {
        EngineVersions x = withEditions(2);
        x.node(2, ALL);
        x.propose(1, 1);
        x.propose(2, 2);
        x.vote(0, 1, true);
        x.vote(0, 2, true);
        x.node(1, ALL);
        x.rise(1);
        Due.is("2 of 3", x.about(1, 3, 0), IN_FORCE);
        x.node(1, ALL);
        Due.is("a late vote", x.vote(1, 2, true), 1);
        x.node(1, ALL);
        x.rise(1);
        Due.is("3 of 5", x.about(2, 3, 0), OVER);
    }

    // "(without NODES, too)"
    private static void promise11_withoutNodesItIsInForce() {
        Due.is("0 of 0", stateAfter(0, weights()), IN_FORCE);
    }

    // "and are not HALTED"
    private static void promise11_votesOfHaltedNodesDoNotCount() {
        EngineVersions x = withEditions(1);
        x.node(2, 0);
        x.node(1, ALL);
        x.propose(1, 2);
        x.vote(0, 1, true);
        x.vote(1, 1, true);
        x.rise(2);
        Due.is("0 was halted", x.halted(0), 1);
        Due.is("1 of 3", x.about(1, 3, 0), OVER);
    }

    // "(its WEIGHT counts among all)"
    private static void promise11_weightsOfHaltedNodesCountAmongAll() {
        EngineVersions x = withEditions(2);
        x.node(100, 0);
        x.node(200, ALL);
        x.node(1, 0);
        x.propose(1, 2);
        x.vote(1, 1, true);
        x.rise(2);
        Due.is("200 of 301, 101 halted", x.about(1, 3, 0), OVER);
        EngineVersions y = withEditions(1);
        y.node(100, 0);
        y.node(200, ALL);
        y.propose(1, 2);
        y.vote(1, 1, true);
        y.rise(2);
        Due.is("200 of 300, 100 halted", y.about(1, 3, 0), IN_FORCE);
    }

    // "as that HEIGHT is come to (behind that)": votes are told first, then nodes are halted.
    private static void promise11_votesAreToldBeforeNodesAreHalted() {
        EngineVersions x = withEditions(1);
        x.node(1, 0);
        x.propose(1, 1);
        x.vote(0, 1, true);
        x.rise(1);
        Due.is("1 is in force", x.about(1, 3, 0), IN_FORCE);
        Due.is("its voter is halted", x.halted(0), 1);
    }

    private static void promise11_whoComesInForceAtThatHeightHalts() {
        EngineVersions x = withEditions(1);
        x.node(1, 2);
        x.propose(1, 1);
        x.vote(0, 1, true);
        x.rise(1);
        Due.is("it lacks 0 but has 1", x.halted(0), NONE);
    }

    // "What is refused changes nothing."
    private static void promise11_whatIsRefusedChangesNothing() {
        refusedInTheScene("rise(0)", BAD, x -> x.rise(0));
        refusedInTheScene("rise(-1)", BAD, x -> x.rise(-1));
        refusedInTheScene("rise(101)", BAD, x -> x.rise(101));
        refusedBehind(Promise11Test::nearTheTop, "rise(11)", FULL, x -> x.rise(11));
    }

    private static void nearTheTop(EngineVersions x) {
        scene(x);
        riseTo(x, 990);
        x.propose(4, 995);
        x.vote(0, 4, true);
        x.vote(1, 4, true);
    }
}

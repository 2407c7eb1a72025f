/** Promises 7 to 13: node, build, propose, vote, rise, force, halted. */
public final class NodesTest {
    private static final int MIN = Integer.MIN_VALUE;
    private static final int MAX = Integer.MAX_VALUE;
    private static final int BAD = EngineVersions.BAD;
    private static final int NO = EngineVersions.NO;
    private static final int FULL = EngineVersions.FULL;
    private static final int NONE = EngineVersions.NONE;

    public static void main(String[] args) {
        nodes();
        builds();
        proposals();
        proposalsAreRefused();
        votes();
        votesAreRefused();
        twoThirds();
        votesTakenBack();
        haltedVotesDoNotCount();
        votersMayBeHaltedByWhatTheyVotedFor();
        withoutNodes();
        rising();
        forceByHeights();
        forceWhenNumbersAreNotInOrder();
        halting();
        haltedByEditionZero();
        Due.end();
    }

    private static EngineVersions withEditions(int more) {
        EngineVersions x = new EngineVersions();
        for (int i = 0; i < more; i++) {
            x.edition(0);
        }
        return x;
    }

    private static void nodes() {
        EngineVersions x = new EngineVersions();
        for (int wrong : new int[] {0, -1, 1001, MIN, MAX}) {
            Due.is("weight " + wrong, x.node(wrong, 1), BAD);
        }
        for (int wrong : new int[] {-1, 1024, 1025, MIN, MAX}) {
            Due.is("build " + wrong, x.node(1, wrong), BAD);
        }
        Due.is("no node came", x.count(1), 0);
        Due.is("weight 1, build 0", x.node(1, 0), 0);
        Due.is("weight 1000, build 1023", x.node(1000, 1023), 1);
        for (int number = 2; number <= 11; number++) {
            Due.is("node " + number, x.node(5, 1), number);
        }
        Due.is("node above 12", x.node(5, 1), FULL);
        Due.is("BAD before FULL: weight", x.node(0, 1), BAD);
        Due.is("BAD before FULL: build", x.node(1, 1024), BAD);
        Due.is("nodes", x.count(1), 12);
    }

    private static void builds() {
        EngineVersions x = withEditions(1);
        x.node(1, 1);
        x.node(1, 1);
        for (int wrong : new int[] {-1, 2, 12, MIN, MAX}) {
            Due.is("build of node " + wrong, x.build(wrong, 1), BAD);
        }
        for (int wrong : new int[] {-1, 1024, MIN, MAX}) {
            Due.is("build " + wrong, x.build(0, wrong), BAD);
        }
        x.propose(1, 1);
        x.vote(0, 1, true);
        x.vote(1, 1, true);
        Due.is("build 2", x.build(0, 2), 1);
        x.rise(1);
        Due.is("the new build has 1", x.halted(0), NONE);
        Due.is("the old one has not", x.halted(1), 1);
        Due.is("build of a halted one", x.build(1, 1023), NO);
        Due.is("BAD before NO", x.build(1, 1024), BAD);
        Due.is("build 0", x.build(0, 0), 1);
        Due.is("not halted before the next height", x.halted(0), NONE);
        Due.is("build back", x.build(0, 1023), 1);
        x.rise(1);
        Due.is("so it goes on", x.halted(0), NONE);
        x.build(0, 1);
        x.rise(1);
        Due.is("a build without the one in force", x.halted(0), 3);
    }

    private static void proposals() {
        EngineVersions x = withEditions(4);
        Due.is("propose(2, 1)", x.propose(2, 1), 1);
        Due.is("propose(1, 1)", x.propose(1, 1), NO);
        Due.is("propose(1, 2)", x.propose(1, 2), 1);
        Due.is("propose(3, 1000)", x.propose(3, 1000), 1);
        Due.is("above each", x.propose(4, 999), NO);
        Due.is("not above 1000", x.propose(4, 1000), NO);
        Due.is("the refused one is open", x.about(4, 3, 0), 0);
        Due.is("and has no height", x.about(4, 2, 0), NONE);
        Due.is("height of 2", x.about(2, 2, 0), 1);
        Due.is("height of 1", x.about(1, 2, 0), 2);
        Due.is("height of 3", x.about(3, 2, 0), 1000);
    }

    private static void proposalsAreRefused() {
        EngineVersions x = withEditions(2);
        for (int wrong : new int[] {-1, 3, 10, MIN, MAX}) {
            Due.is("propose edition " + wrong, x.propose(wrong, 5), BAD);
        }
        for (int wrong : new int[] {1001, MAX}) {
            Due.is("propose for " + wrong, x.propose(1, wrong), BAD);
            Due.is("BAD before NO: 0 for " + wrong, x.propose(0, wrong), BAD);
        }
        Due.is("propose 0", x.propose(0, 5), NO);
        for (int low : new int[] {0, -1, MIN}) {
            Due.is("not above: " + low, x.propose(1, low), NO);
        }
        x.rise(10);
        Due.is("below the height", x.propose(1, 9), NO);
        Due.is("the height itself", x.propose(1, 10), NO);
        Due.is("above it", x.propose(1, 11), 1);
        Due.is("a second time", x.propose(1, 12), NO);
        x.rise(1);
        Due.is("one in force", x.propose(1, 20), NO);
        x.node(1, 1023);
        x.propose(2, 12);
        x.rise(1);
        Due.is("2 is over", x.about(2, 3, 0), 3);
        Due.is("one that is over", x.propose(2, 20), NO);
    }

    private static void votes() {
        EngineVersions x = withEditions(2);
        x.node(2, 1023);
        x.node(1, 1023);
        x.propose(1, 1);
        x.propose(2, 2);
        Due.is("vote", x.vote(0, 1, true), 1);
        Due.is("vote again", x.vote(0, 1, true), 1);
        Due.is("vote for two", x.vote(1, 2, true), 1);
        Due.is("take back what was not voted", x.vote(1, 1, false), 1);
        x.rise(1);
        Due.is("two of three are enough", x.about(1, 3, 0), 2);
        Due.is("a vote for one is none for another", x.about(2, 3, 0), 1);
        x.rise(1);
        Due.is("one of three is not", x.about(2, 3, 0), 3);
        Due.is("so 1 is in force on", x.force(2), 1);
    }

    private static void votesAreRefused() {
        EngineVersions x = withEditions(2);
        x.node(1, 1023);
        x.node(1, 0);
        Due.is("for an open one", x.vote(0, 1, true), NO);
        Due.is("against an open one", x.vote(0, 1, false), NO);
        Due.is("for edition 0", x.vote(0, 0, true), NO);
        x.propose(1, 2);
        x.propose(2, 3);
        for (int wrong : new int[] {-1, 2, 12, MIN, MAX}) {
            Due.is("node " + wrong, x.vote(wrong, 1, true), BAD);
        }
        for (int wrong : new int[] {-1, 3, 10, MIN, MAX}) {
            Due.is("edition " + wrong, x.vote(0, wrong, true), BAD);
        }
        x.rise(1);
        Due.is("node 1 is halted", x.halted(1), 1);
        Due.is("a halted one's vote", x.vote(1, 1, true), NO);
        Due.is("a halted one's taking back", x.vote(1, 1, false), NO);
        Due.is("BAD before NO", x.vote(1, 3, true), BAD);
        Due.is("till the height is come to", x.vote(0, 1, true), 1);
        x.rise(1);
        Due.is("not any more", x.vote(0, 1, true), NO);
        Due.is("1 of 2 was not enough", x.about(1, 3, 0), 3);
    }

    private static int stateAfter(int[] weights, boolean[] yes) {
        EngineVersions x = withEditions(1);
        x.propose(1, 1);
        for (int i = 0; i < weights.length; i++) {
            x.node(weights[i], 1023);
            x.vote(i, 1, yes[i]);
        }
        x.rise(1);
        return x.about(1, 3, 0);
    }

    private static void twoThirds() {
        boolean[] first = {true, false};
        Due.is("200 of 300", stateAfter(new int[] {200, 100}, first), 2);
        Due.is("199 of 299", stateAfter(new int[] {199, 100}, first), 3);
        Due.is("200 of 301", stateAfter(new int[] {200, 101}, first), 3);
        Due.is("201 of 301", stateAfter(new int[] {201, 100}, first), 2);
        Due.is("1 of 1", stateAfter(new int[] {1}, new boolean[] {true}), 2);
        Due.is("0 of 1", stateAfter(new int[] {1}, new boolean[] {false}), 3);
        int[] heavy = new int[12];
        boolean[] eight = new boolean[12];
        boolean[] seven = new boolean[12];
        for (int i = 0; i < 12; i++) {
            heavy[i] = 1000;
            eight[i] = i >= 4;
            seven[i] = i >= 5;
        }
        Due.is("8000 of 12000", stateAfter(heavy, eight), 2);
        Due.is("7000 of 12000", stateAfter(heavy, seven), 3);
    }

    private static void votesTakenBack() {
        EngineVersions x = withEditions(2);
        x.node(1, 1023);
        x.propose(1, 1);
        x.propose(2, 2);
        x.vote(0, 1, true);
        x.vote(0, 2, true);
        Due.is("take back", x.vote(0, 1, false), 1);
        x.rise(2);
        Due.is("taken back", x.about(1, 3, 0), 3);
        Due.is("the other vote holds", x.about(2, 3, 0), 2);
    }

    private static void haltedVotesDoNotCount() {
        EngineVersions x = withEditions(1);
        x.node(2, 0);
        x.node(1, 1023);
        x.propose(1, 2);
        x.vote(0, 1, true);
        x.vote(1, 1, true);
        x.rise(1);
        Due.is("0 is halted", x.halted(0), 1);
        x.rise(1);
        Due.is("its weight counts among all alone", x.about(1, 3, 0), 3);
        EngineVersions y = withEditions(1);
        y.node(1, 0);
        y.node(2, 1023);
        y.propose(1, 2);
        y.vote(1, 1, true);
        y.rise(2);
        Due.is("2 of 3, one halted", y.about(1, 3, 0), 2);
        EngineVersions z = withEditions(1);
        z.node(1, 0);
        z.node(2, 1023);
        z.propose(1, 1);
        z.vote(0, 1, true);
        z.vote(1, 1, false);
        z.rise(1);
        Due.is("1 of 3", z.about(1, 3, 0), 3);
    }

    private static void votersMayBeHaltedByWhatTheyVotedFor() {
        EngineVersions x = withEditions(1);
        x.node(1, 0);
        x.propose(1, 1);
        x.vote(0, 1, true);
        x.rise(1);
        Due.is("votes count, then nodes are halted", x.about(1, 3, 0), 2);
        Due.is("halted by it", x.halted(0), 1);
        EngineVersions y = withEditions(1);
        y.node(1, 2);
        y.propose(1, 1);
        y.vote(0, 1, true);
        y.rise(1);
        Due.is("without 0, with 1", y.halted(0), NONE);
    }

    private static void withoutNodes() {
        EngineVersions x = withEditions(1);
        x.propose(1, 3);
        x.rise(3);
        Due.is("without nodes", x.about(1, 3, 0), 2);
        Due.is("from there on", x.force(3), 1);
        Due.is("not before", x.force(2), 0);
    }

    private static void rising() {
        EngineVersions x = withEditions(1);
        for (int wrong : new int[] {0, -1, 101, MIN, MAX}) {
            Due.is("rise(" + wrong + ")", x.rise(wrong), BAD);
        }
        Due.is("height stays", x.count(4), 0);
        Due.is("rise(1)", x.rise(1), 1);
        for (int i = 1; i <= 9; i++) {
            Due.is("rise(100)", x.rise(100), 100 * i + 1);
        }
        x.propose(1, 1000);
        Due.is("above 1000", x.rise(100), FULL);
        Due.is("height is as it was", x.count(4), 901);
        Due.is("nothing was decided", x.about(1, 3, 0), 1);
        Due.is("BAD before FULL", x.rise(101), BAD);
        Due.is("to 1000", x.rise(99), 1000);
        Due.is("1000 is decided", x.about(1, 3, 0), 2);
        Due.is("above 1000 by one", x.rise(1), FULL);
        Due.is("nothing is above 1000", x.propose(1, 1000), NO);
        Due.is("force(1000)", x.force(1000), 1);
        Due.is("force(1001)", x.force(1001), BAD);
    }

    private static void forceByHeights() {
        EngineVersions x = withEditions(3);
        x.propose(1, 3);
        x.propose(2, 4);
        x.propose(3, 10);
        Due.is("not to be known ahead", x.force(1), BAD);
        x.rise(3);
        x.node(1, 1023);
        x.rise(3);
        x.vote(0, 3, true);
        x.rise(100);
        int[] due = {0, 0, 0, 1, 1, 1, 1, 1, 1, 1, 3, 3};
        for (int height = 0; height < due.length; height++) {
            Due.is("force(" + height + ")", x.force(height), due[height]);
        }
        Due.is("force(106)", x.force(106), 3);
        for (int wrong : new int[] {-1, 107, MIN, MAX}) {
            Due.is("force(" + wrong + ")", x.force(wrong), BAD);
        }
    }

    private static void forceWhenNumbersAreNotInOrder() {
        EngineVersions x = withEditions(9);
        x.propose(9, 1);
        x.propose(5, 3);
        x.propose(7, 5);
        x.propose(2, 6);
        x.rise(8);
        int[] due = {0, 9, 9, 5, 5, 7, 2, 2, 2};
        for (int height = 0; height < due.length; height++) {
            Due.is("out of order: force(" + height + ")", x.force(height), due[height]);
        }
    }

    private static void halting() {
        EngineVersions x = withEditions(2);
        x.propose(1, 5);
        x.propose(2, 7);
        x.rise(1);
        x.node(10, 1 + 2 + 4);
        x.node(1, 1);
        x.node(1, 1 + 2);
        x.vote(0, 1, true);
        x.vote(0, 2, true);
        x.rise(8);
        Due.is("it has all", x.halted(0), NONE);
        Due.is("it lacks 1", x.halted(1), 5);
        Due.is("it lacks 2", x.halted(2), 7);
        x.node(1, 1);
        Due.is("not halted as it comes", x.halted(3), NONE);
        x.rise(1);
        Due.is("halted at the next height", x.halted(3), 10);
        Due.is("the first height stays", x.halted(1), 5);
        for (int wrong : new int[] {-1, 4, 12, MIN, MAX}) {
            Due.is("halted(" + wrong + ")", x.halted(wrong), BAD);
        }
    }

    private static void haltedByEditionZero() {
        EngineVersions x = new EngineVersions();
        x.node(1, 1022);
        x.node(1, 1);
        Due.is("not at height 0", x.halted(0), NONE);
        x.rise(4);
        Due.is("at height 1", x.halted(0), 1);
        Due.is("the other one is not", x.halted(1), NONE);
    }
}

/** Promise 10: vote. */
public final class Promise10Test extends Bench {
    public static void main(String[] args) throws IllegalAccessException {
        Due.allTestsOf(Promise10Test.class);
    }

    /** One node, of which alone it depends whether editions 1 and 2 come in force at heights 2 and 3. */
    private static EngineVersions twoProposals() {
        EngineVersions x = withEditions(2);
        x.node(1, ALL);
        x.propose(1, 2);
        x.propose(2, 3);
        return x;
    }

    // "A NODE votes for an EDITION ..: 1."
    private static void promise10_aVoteCounts() {
        EngineVersions x = twoProposals();
        Due.is("vote", x.vote(0, 1, true), 1);
        x.rise(2);
        Due.is("1 is in force", x.about(1, 3, 0), IN_FORCE);
    }

    private static void promise10_withoutAVoteItIsOver() {
        EngineVersions x = twoProposals();
        x.rise(2);
        Due.is("1 is over", x.about(1, 3, 0), OVER);
    }

    private static void promise10_aVoteForOneIsNoneForAnother() {
        EngineVersions x = twoProposals();
        x.vote(0, 2, true);
        x.rise(3);
        Due.is("1 is over", x.about(1, 3, 0), OVER);
        Due.is("2 is in force", x.about(2, 3, 0), IN_FORCE);
    }

    private static void promise10_aNodeMayVoteForSeveral() {
        EngineVersions x = twoProposals();
        x.vote(0, 1, true);
        x.vote(0, 2, true);
        x.rise(3);
        Due.is("1 came in force", x.about(1, 3, 0), IN_FORCE);
        Due.is("2 came in force", x.about(2, 3, 0), IN_FORCE);
    }

    // "or takes that back: 1"
    private static void promise10_takenBack() {
        EngineVersions x = twoProposals();
        x.vote(0, 1, true);
        x.vote(0, 2, true);
        Due.is("taken back", x.vote(0, 1, false), 1);
        x.rise(3);
        Due.is("1 is over", x.about(1, 3, 0), OVER);
        Due.is("the other vote holds", x.about(2, 3, 0), IN_FORCE);
    }

    private static void promise10_takingBackWhatWasNotVoted() {
        EngineVersions x = twoProposals();
        Due.is("without a vote", x.vote(0, 1, false), 1);
        Due.is("then a vote", x.vote(0, 1, true), 1);
        x.rise(2);
        Due.is("1 is in force", x.about(1, 3, 0), IN_FORCE);
    }

    private static void promise10_twoVotesAreOne() {
        EngineVersions x = twoProposals();
        x.node(1, ALL);
        Due.is("once", x.vote(0, 1, true), 1);
        Due.is("twice", x.vote(0, 1, true), 1);
        x.rise(2);
        Due.is("1 of 2, not 2 of 2", x.about(1, 3, 0), OVER);
    }

    private static void promise10_twoVotesAreTakenBackAtOnce() {
        EngineVersions x = twoProposals();
        x.vote(0, 1, true);
        x.vote(0, 1, true);
        x.vote(0, 1, false);
        x.rise(2);
        Due.is("1 is over", x.about(1, 3, 0), OVER);
    }

    private static void promise10_votedAnew() {
        EngineVersions x = twoProposals();
        x.vote(0, 1, true);
        x.vote(0, 1, false);
        Due.is("anew", x.vote(0, 1, true), 1);
        x.rise(2);
        Due.is("1 is in force", x.about(1, 3, 0), IN_FORCE);
    }

    // "NO: it is not PROPOSED"
    private static void promise10_noForAnOpenOne() {
        EngineVersions x = withEditions(1);
        x.node(1, ALL);
        Due.is("vote", x.vote(0, 1, true), NO);
        Due.is("take back", x.vote(0, 1, false), NO);
        x.propose(1, 1);
        x.rise(1);
        Due.is("that vote does not count later", x.about(1, 3, 0), OVER);
    }

    private static void promise10_noForEditionZero() {
        EngineVersions x = new EngineVersions();
        x.node(1, ALL);
        Due.is("vote", x.vote(0, 0, true), NO);
        Due.is("take back", x.vote(0, 0, false), NO);
    }

    // "till that HEIGHT is come to", "(any more)"
    private static void promise10_tillTheHeightIsComeTo() {
        EngineVersions x = twoProposals();
        x.rise(1);
        Due.is("one height ahead", x.vote(0, 1, true), 1);
        x.rise(1);
        Due.is("in force", x.vote(0, 1, true), NO);
        Due.is("taken back too late", x.vote(0, 1, false), NO);
        Due.is("1 is in force", x.about(1, 3, 0), IN_FORCE);
        Due.is("2 is proposed yet", x.vote(0, 2, false), 1);
        x.rise(1);
        Due.is("over", x.vote(0, 2, true), NO);
        Due.is("2 is over", x.about(2, 3, 0), OVER);
    }

    // "or the NODE is HALTED"
    private static void promise10_noForAHaltedNode() {
        EngineVersions x = withEditions(1);
        x.node(1, 0);
        x.propose(1, 3);
        Due.is("before it is halted", x.vote(0, 1, true), 1);
        x.rise(1);
        Due.is("vote", x.vote(0, 1, true), NO);
        Due.is("take back", x.vote(0, 1, false), NO);
    }

    // A NODE needs not have the EDITION for which it votes: nothing says so.
    private static void promise10_aNodeMayVoteForWhatItLacks() {
        EngineVersions x = withEditions(1);
        x.node(1, 1);
        x.propose(1, 1);
        Due.is("vote", x.vote(0, 1, true), 1);
        x.rise(1);
        Due.is("1 is in force", x.about(1, 3, 0), IN_FORCE);
        Due.is("the node is halted by it", x.halted(0), 1);
    }

    private static void promise10_badNodeThatIsNotThere() {
        EngineVersions x = twoProposals();
        for (int wrong : new int[] {-1, 1, 11, 12, MIN, MAX}) {
            Due.is("vote(" + wrong + ", 1, true)", x.vote(wrong, 1, true), BAD);
            Due.is("vote(" + wrong + ", 1, false)", x.vote(wrong, 1, false), BAD);
        }
    }

    private static void promise10_badEditionThatIsNotThere() {
        EngineVersions x = twoProposals();
        for (int wrong : new int[] {-1, 3, 9, 10, MIN, MAX}) {
            Due.is("vote(0, " + wrong + ", true)", x.vote(0, wrong, true), BAD);
        }
    }

    private static void promise10_theTwelfthNodeForTheTenthEdition() {
        EngineVersions x = withEditions(9);
        for (int number = 0; number <= 11; number++) {
            x.node(number == 11 ? 1000 : 1, ALL);
        }
        x.propose(9, 1);
        Due.is("vote(11, 9, true)", x.vote(11, 9, true), 1);
        x.rise(1);
        Due.is("9 is in force", x.force(1), 9);
    }

    // "the first that fits"
    private static void promise10_badComesBeforeNo() {
        EngineVersions x = withEditions(1);
        x.node(1, 0);
        x.rise(1);
        Due.is("halted, no such edition", x.vote(0, 2, true), BAD);
        Due.is("open, no such node", x.vote(1, 1, true), BAD);
    }

    // "What is refused changes nothing."
    private static void promise10_whatIsRefusedChangesNothing() {
        refusedInTheScene("vote(3, 3, true)", BAD, x -> x.vote(3, 3, true));
        refusedInTheScene("vote(0, 5, true)", BAD, x -> x.vote(0, 5, true));
        refusedInTheScene("vote(2, 3, true)", NO, x -> x.vote(2, 3, true));
        for (int edition : new int[] {0, 1, 2, 4}) {
            refusedInTheScene("votes for " + edition, NO, x -> Math.max(x.vote(0, edition, true), x.vote(1, edition, true)));
            refusedInTheScene("votes back for " + edition, NO, x -> Math.max(x.vote(0, edition, false), x.vote(1, edition, false)));
        }
    }
}

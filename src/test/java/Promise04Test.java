/** Promise 4: member. */
public final class Promise04Test extends Bench {
    public static void main(String[] args) throws IllegalAccessException {
        Due.allTestsOf(Promise04Test.class);
    }

    // "A MEMBER of an EDITION has a MEANING ..: what it had"
    private static void promise04_answersWhatItHad() {
        EngineVersions x = withEditions(1);
        Due.is("first", x.member(1, 3, SIZE), NONE);
        Due.is("then", x.member(1, 3, ONES), SIZE);
        Due.is("the same again", x.member(1, 3, ONES), ONES);
        Due.is("so it is", x.about(1, 1, 3), ONES);
    }

    private static void promise04_changesOneMemberOfOneEdition() {
        EngineVersions x = withEditions(2);
        x.member(1, 3, SQUARE);
        for (int member = 0; member <= 7; member++) {
            Due.is("member " + member + " of 0", x.about(0, 1, member), NONE);
            Due.is("member " + member + " of 1", x.about(1, 1, member), member == 3 ? SQUARE : NONE);
            Due.is("member " + member + " of 2", x.about(2, 1, member), NONE);
        }
    }

    // "(NONE: it is not there)"
    private static void promise04_noneTakesItAway() {
        EngineVersions x = withEditions(1);
        Due.is("taken away before it was there", x.member(1, 3, NONE), NONE);
        x.member(1, 3, SIZE);
        Due.is("taken away", x.member(1, 3, NONE), SIZE);
        Due.is("gone", x.about(1, 1, 3), NONE);
        Due.is("put back", x.member(1, 3, LESS), NONE);
    }

    // "a MEANING (0 .. 5)"
    private static void promise04_meaningsAreZeroToFive() {
        EngineVersions x = withEditions(1);
        for (int meaning = 0; meaning <= 5; meaning++) {
            Due.is("meaning " + meaning, x.member(1, 0, meaning), meaning - 1);
        }
    }

    private static void promise04_badMeaningBelowNone() {
        EngineVersions x = withEditions(1);
        Due.is("meaning -2", x.member(1, 0, -2), BAD);
        Due.is("meaning MIN", x.member(1, 0, MIN), BAD);
        Due.is("it is not there", x.about(1, 1, 0), NONE);
    }

    private static void promise04_badMeaningAboveFive() {
        EngineVersions x = withEditions(1);
        Due.is("meaning 6", x.member(1, 0, 6), BAD);
        Due.is("meaning MAX", x.member(1, 0, MAX), BAD);
        Due.is("it is not there", x.about(1, 1, 0), NONE);
    }

    // "of MEMBERS 0 .. 7"
    private static void promise04_membersAreZeroToSeven() {
        EngineVersions x = withEditions(1);
        Due.is("member 0", x.member(1, 0, LESS), NONE);
        Due.is("member 7", x.member(1, 7, ONES), NONE);
        for (int wrong : new int[] {-1, 8, MIN, MAX}) {
            Due.is("member " + wrong, x.member(1, wrong, LESS), BAD);
            Due.is("no member " + wrong, x.member(1, wrong, NONE), BAD);
        }
    }

    private static void promise04_badEditionThatIsNotThere() {
        EngineVersions x = withEditions(1);
        for (int wrong : new int[] {-1, 2, 9, 10, MIN, MAX}) {
            Due.is("edition " + wrong, x.member(wrong, 0, LESS), BAD);
        }
    }

    private static void promise04_theTenthEditionMayBeChanged() {
        EngineVersions x = withEditions(9);
        Due.is("edition 9", x.member(9, 0, LESS), NONE);
        Due.is("edition 10", x.member(10, 0, LESS), BAD);
    }

    // "NO likewise": edition 0
    private static void promise04_noEditionZero() {
        EngineVersions x = new EngineVersions();
        Due.is("a meaning", x.member(0, 0, SIZE), NO);
        Due.is("none, as it is", x.member(0, 0, NONE), NO);
        Due.is("it stays", x.about(0, 1, 0), NONE);
    }

    // "NO likewise": proposed
    private static void promise04_noOnceItIsProposed() {
        EngineVersions x = withEditions(1);
        Due.is("just before", x.member(1, 0, LESS), NONE);
        x.propose(1, 3);
        Due.is("just behind", x.member(1, 0, SIZE), NO);
        Due.is("taken away", x.member(1, 0, NONE), NO);
        Due.is("it stays", x.about(1, 1, 0), LESS);
    }

    private static void promise04_aRefusedProposalLeavesItOpen() {
        EngineVersions x = withEditions(1);
        Due.is("propose(1, 0)", x.propose(1, 0), NO);
        Due.is("member", x.member(1, 0, LESS), NONE);
    }

    private static void promise04_noForOneThatCameInForce() {
        EngineVersions x = withEditions(2);
        putInForce(x, 1);
        Due.is("in force", x.member(1, 0, LESS), NO);
        putInForce(x, 2);
        Due.is("no longer in force", x.member(1, 0, LESS), NO);
        Due.is("it stays", x.about(1, 1, 0), NONE);
    }

    private static void promise04_noForOneThatIsOver() {
        EngineVersions x = withEditions(1);
        x.node(1, ALL);
        x.propose(1, 1);
        x.rise(1);
        Due.is("it is over", x.about(1, 3, 0), OVER);
        Due.is("member", x.member(1, 0, LESS), NO);
        Due.is("it stays", x.about(1, 1, 0), NONE);
    }

    // "the first that fits"
    private static void promise04_badComesBeforeNo() {
        EngineVersions x = withEditions(1);
        x.propose(1, 3);
        for (int edition = 0; edition <= 1; edition++) {
            Due.is("member -1", x.member(edition, -1, LESS), BAD);
            Due.is("member 8", x.member(edition, 8, LESS), BAD);
            Due.is("meaning -2", x.member(edition, 0, -2), BAD);
            Due.is("meaning 6", x.member(edition, 0, 6), BAD);
        }
    }

    // "What is refused changes nothing."
    private static void promise04_whatIsRefusedChangesNothing() {
        refusedInTheScene("member(5, 0, 0)", BAD, x -> x.member(5, 0, 0));
        refusedInTheScene("member(4, 8, 0)", BAD, x -> x.member(4, 8, 0));
        refusedInTheScene("member(4, 0, 6)", BAD, x -> x.member(4, 0, 6));
        refusedInTheScene("member(4, 0, -2)", BAD, x -> x.member(4, 0, -2));
        for (int edition = 0; edition <= 3; edition++) {
            int refused = edition;
            refusedInTheScene("member(" + edition + ", 0, 5)", NO, x -> x.member(refused, 0, ONES));
        }
    }
}

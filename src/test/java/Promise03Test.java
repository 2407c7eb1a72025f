/** Promise 3: price. */
public final class Promise03Test extends Bench {
    public static void main(String[] args) throws IllegalAccessException {
        Due.allTestsOf(Promise03Test.class);
    }

    // "The PRICE of an ACT in an EDITION becomes v: what it was."
    private static void promise03_answersWhatItWas() {
        EngineVersions x = withEditions(1);
        Due.is("first", x.price(1, ADD, 7), 1);
        Due.is("then", x.price(1, ADD, 9), 7);
        Due.is("the same again", x.price(1, ADD, 9), 9);
        Due.is("so it is", x.about(1, 0, ADD), 9);
    }

    private static void promise03_changesOneActOfOneEdition() {
        EngineVersions x = withEditions(2);
        x.price(1, ADD, 7);
        for (int act = 0; act <= 8; act++) {
            Due.is("act " + act + " of 0", x.about(0, 0, act), 1);
            Due.is("act " + act + " of 1", x.about(1, 0, act), act == ADD ? 7 : 1);
            Due.is("act " + act + " of 2", x.about(2, 0, act), 1);
        }
    }

    // "PRICE (0 .. 100)"
    private static void promise03_leastPriceIsZero() {
        EngineVersions x = withEditions(1);
        Due.is("price 0", x.price(1, PUSH, 0), 1);
        Due.is("price -1", x.price(1, PUSH, -1), BAD);
        Due.is("price MIN", x.price(1, PUSH, MIN), BAD);
        Due.is("it is 0", x.about(1, 0, PUSH), 0);
    }

    private static void promise03_greatestPriceIsAHundred() {
        EngineVersions x = withEditions(1);
        Due.is("price 100", x.price(1, PUSH, 100), 1);
        Due.is("price 101", x.price(1, PUSH, 101), BAD);
        Due.is("price MAX", x.price(1, PUSH, MAX), BAD);
        Due.is("it is 100", x.about(1, 0, PUSH), 100);
    }

    // "ACTS (0 PUSH, .. 8 FETCH)"
    private static void promise03_actsAreZeroToEight() {
        EngineVersions x = withEditions(1);
        Due.is("act 0", x.price(1, 0, 5), 1);
        Due.is("act 8", x.price(1, 8, 6), 1);
        for (int wrong : new int[] {-1, 9, MIN, MAX}) {
            Due.is("act " + wrong, x.price(1, wrong, 5), BAD);
        }
    }

    private static void promise03_badEditionThatIsNotThere() {
        EngineVersions x = withEditions(1);
        for (int wrong : new int[] {-1, 2, 9, 10, MIN, MAX}) {
            Due.is("edition " + wrong, x.price(wrong, 0, 5), BAD);
        }
    }

    private static void promise03_theTenthEditionMayBeChanged() {
        EngineVersions x = withEditions(9);
        Due.is("edition 9", x.price(9, 0, 5), 1);
        Due.is("edition 10", x.price(10, 0, 5), BAD);
    }

    // "(EDITION 0 not at all)", "(or 0)"
    private static void promise03_noEditionZero() {
        EngineVersions x = new EngineVersions();
        Due.is("another price", x.price(0, PUSH, 5), NO);
        Due.is("the same price", x.price(0, PUSH, 1), NO);
        Due.is("it stays 1", x.about(0, 0, PUSH), 1);
    }

    // "An EDITION may be changed till it is PROPOSED"
    private static void promise03_noOnceItIsProposed() {
        EngineVersions x = withEditions(1);
        Due.is("just before", x.price(1, PUSH, 5), 1);
        x.propose(1, 3);
        Due.is("just behind", x.price(1, PUSH, 6), NO);
        Due.is("the same price", x.price(1, PUSH, 5), NO);
        Due.is("it stays", x.about(1, 0, PUSH), 5);
    }

    private static void promise03_aRefusedProposalLeavesItOpen() {
        EngineVersions x = withEditions(1);
        Due.is("propose(1, 0)", x.propose(1, 0), NO);
        Due.is("propose(1, 1001)", x.propose(1, 1001), BAD);
        Due.is("price", x.price(1, PUSH, 5), 1);
    }

    private static void promise03_noForOneThatCameInForce() {
        EngineVersions x = withEditions(2);
        putInForce(x, 1);
        Due.is("in force", x.price(1, PUSH, 5), NO);
        putInForce(x, 2);
        Due.is("no longer in force", x.price(1, PUSH, 5), NO);
        Due.is("it stays", x.about(1, 0, PUSH), 1);
    }

    private static void promise03_noForOneThatIsOver() {
        EngineVersions x = withEditions(1);
        x.node(1, ALL);
        x.propose(1, 1);
        x.rise(1);
        Due.is("it is over", x.about(1, 3, 0), OVER);
        Due.is("price", x.price(1, PUSH, 5), NO);
        Due.is("it stays", x.about(1, 0, PUSH), 1);
    }

    // "the first that fits"
    private static void promise03_badComesBeforeNo() {
        EngineVersions x = withEditions(1);
        x.propose(1, 3);
        for (int edition = 0; edition <= 1; edition++) {
            Due.is("act -1", x.price(edition, -1, 5), BAD);
            Due.is("act 9", x.price(edition, 9, 5), BAD);
            Due.is("price -1", x.price(edition, 0, -1), BAD);
            Due.is("price 101", x.price(edition, 0, 101), BAD);
        }
    }

    // "What is refused changes nothing."
    private static void promise03_whatIsRefusedChangesNothing() {
        refusedInTheScene("price(5, 0, 5)", BAD, x -> x.price(5, 0, 5));
        refusedInTheScene("price(4, 9, 5)", BAD, x -> x.price(4, 9, 5));
        refusedInTheScene("price(4, 0, 101)", BAD, x -> x.price(4, 0, 101));
        refusedInTheScene("price(4, 0, -1)", BAD, x -> x.price(4, 0, -1));
        for (int edition = 0; edition <= 3; edition++) {
            int refused = edition;
            refusedInTheScene("price(" + edition + ", 0, 50)", NO, x -> x.price(refused, 0, 50));
        }
    }
}

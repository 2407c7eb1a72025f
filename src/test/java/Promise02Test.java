/** Promise 2: edition. */
public final class Promise02Test extends Bench {
    public static void main(String[] args) throws IllegalAccessException {
        Due.allTestsOf(Promise02Test.class);
    }

    // "EDITIONS are numbered as they come"
    private static void promise02_numbersAsTheyCome() {
        EngineVersions x = new EngineVersions();
        Due.is("edition(0)", x.edition(0), 1);
        Due.is("edition(0)", x.edition(0), 2);
        Due.is("edition(1)", x.edition(1), 3);
        Due.is("count(0)", x.count(0), 4);
    }

    // "A new one is a copy of another one."
    private static void promise02_eachPriceAndEachMemberIsCopied() {
        EngineVersions x = withEditions(1);
        for (int act = 0; act <= 8; act++) {
            x.price(1, act, 20 + act);
        }
        for (int member = 0; member <= 7; member++) {
            x.member(1, member, member - 1 > 5 ? NONE : member - 1);
        }
        Due.is("edition(1)", x.edition(1), 2);
        for (int act = 0; act <= 8; act++) {
            Due.is("price of " + act, x.about(2, 0, act), 20 + act);
        }
        for (int member = 0; member <= 7; member++) {
            Due.is("member " + member, x.about(2, 1, member), member - 1 > 5 ? NONE : member - 1);
        }
    }

    private static void promise02_aCopyAndItsModelGoTheirOwnWays() {
        EngineVersions x = withEditions(1);
        x.price(1, 3, 44);
        x.member(1, 7, SQUARE);
        x.edition(1);
        x.price(2, 3, 9);
        x.member(2, 7, ONES);
        Due.is("the model's price", x.about(1, 0, 3), 44);
        Due.is("the model's member", x.about(1, 1, 7), SQUARE);
        x.price(1, 3, 45);
        x.member(1, 7, NONE);
        Due.is("the copy's price", x.about(2, 0, 3), 9);
        Due.is("the copy's member", x.about(2, 1, 7), ONES);
    }

    // "An EDITION may be changed till it is PROPOSED": a copy of a proposed one is not proposed.
    private static void promise02_aCopyIsOpenWhateverItsModelIs() {
        EngineVersions x = new EngineVersions();
        scene(x);
        int[] models = {0, 1, 2, 3, 4};
        for (int i = 0; i < models.length; i++) {
            int copy = x.edition(models[i]);
            Due.is("a copy of " + models[i], copy, 5 + i);
            Due.is("its height", x.about(copy, 2, 0), NONE);
            Due.is("its state", x.about(copy, 3, 0), OPEN);
            Due.is("its price", x.price(copy, ADD, 8), models[i] == 0 ? 1 : 3);
            Due.is("its member", x.member(copy, 5, ONES), NONE);
        }
        for (int copy = 5; copy <= 9; copy++) {
            Due.is("propose(" + copy + ", ..)", x.propose(copy, 20 + copy), 1);
        }
    }

    // "BAD": no such thing
    private static void promise02_badLikeBelowZero() {
        EngineVersions x = new EngineVersions();
        Due.is("edition(-1)", x.edition(-1), BAD);
        Due.is("edition(MIN)", x.edition(MIN), BAD);
    }

    private static void promise02_badLikeThatIsNotThere() {
        EngineVersions x = new EngineVersions();
        for (int like : new int[] {1, 2, 9, 10, MAX}) {
            Due.is("edition(" + like + ")", x.edition(like), BAD);
        }
        x.edition(0);
        Due.is("edition(1)", x.edition(1), 2);
        Due.is("edition(3)", x.edition(3), BAD);
    }

    // "FULL: above 10"
    private static void promise02_theTenthComesAndNoneAboveTen() {
        EngineVersions x = new EngineVersions();
        for (int number = 1; number <= 8; number++) {
            x.edition(0);
        }
        Due.is("the tenth", x.edition(8), 9);
        Due.is("the eleventh", x.edition(0), FULL);
        Due.is("again", x.edition(9), FULL);
        Due.is("count(0)", x.count(0), 10);
    }

    // "the first that fits"
    private static void promise02_badComesBeforeFull() {
        EngineVersions x = withEditions(9);
        Due.is("edition(10)", x.edition(10), BAD);
        Due.is("edition(-1)", x.edition(-1), BAD);
    }

    // "What is refused changes nothing."
    private static void promise02_whatIsRefusedChangesNothing() {
        refusedInTheScene("edition(5)", BAD, x -> x.edition(5));
        refusedInTheScene("edition(-1)", BAD, x -> x.edition(-1));
        refusedBehind(Promise02Test::tenEditions, "edition(3)", FULL, x -> x.edition(3));
    }

    private static void tenEditions(EngineVersions x) {
        for (int number = 1; number <= 9; number++) {
            x.edition(0);
            x.price(number, 0, number);
            x.member(number, 7, number % 6);
        }
    }
}

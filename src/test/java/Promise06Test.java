/** Promise 6: differs. */
public final class Promise06Test extends Bench {
    public static void main(String[] args) throws IllegalAccessException {
        Due.allTestsOf(Promise06Test.class);
    }

    private static EngineVersions allDiffer() {
        EngineVersions x = withEditions(1);
        for (int act = 0; act <= 8; act++) {
            x.price(1, act, 50);
        }
        for (int member = 0; member <= 7; member++) {
            x.member(1, member, SIZE);
        }
        return x;
    }

    // "NONE: not so many"
    private static void promise06_noneWhereNothingDiffers() {
        EngineVersions x = withEditions(1);
        Due.is("a copy", x.differs(0, 1, 0), NONE);
        Due.is("itself", x.differs(1, 1, 0), NONE);
    }

    // "(PRICES by ACTS, then MEMBERS): the ACT, or 9 and the MEMBER"
    private static void promise06_actsThenMembersInTheirOrder() {
        EngineVersions x = withEditions(1);
        x.member(1, 7, ONES);
        x.member(1, 0, SIZE);
        x.price(1, 8, 2);
        x.price(1, 0, 2);
        int[] due = {0, 8, 9, 16};
        for (int k = 0; k < due.length; k++) {
            Due.is("differs(0, 1, " + k + ")", x.differs(0, 1, k), due[k]);
            Due.is("differs(1, 0, " + k + ")", x.differs(1, 0, k), due[k]);
        }
        Due.is("differs(0, 1, 4)", x.differs(0, 1, 4), NONE);
    }

    private static void promise06_allSeventeenDiffer() {
        EngineVersions x = allDiffer();
        for (int k = 0; k <= 16; k++) {
            Due.is("differs(0, 1, " + k + ")", x.differs(0, 1, k), k);
        }
    }

    private static void promise06_noneBehindTheLast() {
        EngineVersions x = allDiffer();
        Due.is("differs(0, 1, 17)", x.differs(0, 1, 17), NONE);
        Due.is("differs(0, 1, MAX)", x.differs(0, 1, MAX), NONE);
    }

    // "or k below 0"
    private static void promise06_noneWhereKIsBelowZero() {
        EngineVersions x = allDiffer();
        Due.is("differs(0, 1, -1)", x.differs(0, 1, -1), NONE);
        Due.is("differs(0, 1, MIN)", x.differs(0, 1, MIN), NONE);
    }

    private static void promise06_theLeastDifferenceIsOne() {
        EngineVersions x = withEditions(2);
        x.price(1, STORE, 0);
        x.price(2, STORE, 100);
        Due.is("0 and 1", x.differs(0, 1, 0), STORE);
        Due.is("1 and 2", x.differs(1, 2, 0), STORE);
        x.price(2, STORE, 0);
        Due.is("made alike", x.differs(1, 2, 0), NONE);
    }

    private static void promise06_meaningsDifferThoughBothAreThere() {
        EngineVersions x = withEditions(2);
        x.member(1, 4, HALF_CUT);
        x.member(2, 4, HALF_BELOW);
        Due.is("1 and 2", x.differs(1, 2, 0), 13);
        Due.is("no more", x.differs(1, 2, 1), NONE);
        x.member(2, 4, HALF_CUT);
        Due.is("made alike", x.differs(1, 2, 0), NONE);
    }

    // Heights and states are no differences: only PRICES and MEMBERS are named.
    private static void promise06_onlyPricesAndMembersMatter() {
        EngineVersions x = withEditions(2);
        putInForce(x, 1);
        x.propose(2, 9);
        Due.is("in force and proposed", x.differs(1, 2, 0), NONE);
        Due.is("0 and proposed", x.differs(0, 2, 0), NONE);
    }

    // "BAD"
    private static void promise06_badEditionThatIsNotThere() {
        EngineVersions x = withEditions(1);
        for (int wrong : new int[] {-1, 2, 9, 10, MIN, MAX}) {
            Due.is("differs(" + wrong + ", 0, 0)", x.differs(wrong, 0, 0), BAD);
            Due.is("differs(0, " + wrong + ", 0)", x.differs(0, wrong, 0), BAD);
            Due.is("differs(" + wrong + ", " + wrong + ", 0)", x.differs(wrong, wrong, 0), BAD);
        }
    }

    // NONE is an answer about editions that are there.
    private static void promise06_badComesBeforeNone() {
        EngineVersions x = new EngineVersions();
        Due.is("differs(0, 1, -1)", x.differs(0, 1, -1), BAD);
        Due.is("differs(1, 0, -1)", x.differs(1, 0, -1), BAD);
        Due.is("differs(0, 1, 17)", x.differs(0, 1, 17), BAD);
    }

    private static void promise06_theTenthEditionMayBeAsked() {
        EngineVersions x = withEditions(9);
        x.price(9, DIVIDE, 3);
        Due.is("differs(9, 0, 0)", x.differs(9, 0, 0), DIVIDE);
        Due.is("differs(0, 9, 0)", x.differs(0, 9, 0), DIVIDE);
        Due.is("differs(0, 10, 0)", x.differs(0, 10, 0), BAD);
    }

    private static void promise06_askingChangesNothing() {
        refusedInTheScene("differs(0, 5, 0)", BAD, x -> x.differs(0, 5, 0));
        refusedInTheScene("differs(0, 1, 2)", NONE, x -> x.differs(0, 1, 2));
        refusedInTheScene("differs(0, 1, 0)", ADD, x -> x.differs(0, 1, 0));
    }
}

/** Promise 15: act. */
public final class Promise15Test extends Bench {
    public static void main(String[] args) throws IllegalAccessException {
        Due.allTestsOf(Promise15Test.class);
    }

    private static int of24Acts(EngineVersions x) {
        int contract = x.contract();
        for (int i = 1; i <= 24; i++) {
            x.act(contract, PUSH, i);
        }
        return contract;
    }

    // "An ACT more of a CONTRACT: how many."
    private static void promise15_howMany() {
        EngineVersions x = new EngineVersions();
        int one = x.contract();
        int two = x.contract();
        Due.is("first of one", x.act(one, PUSH, 5), 1);
        Due.is("second of one", x.act(one, PUSH, 5), 2);
        Due.is("first of two", x.act(two, PUSH, 5), 1);
    }

    // "(24 at most)", "FULL: above 24"
    private static void promise15_the24thComesAndNoneAbove24() {
        EngineVersions x = new EngineVersions();
        int contract = x.contract();
        for (int i = 1; i <= 24; i++) {
            Due.is("act " + i, x.act(contract, PUSH, i), i);
        }
        Due.is("act 25", x.act(contract, PUSH, 25), FULL);
        Due.is("again", x.act(contract, STORE, 0), FULL);
        Due.is("24 are deployed", x.deploy(contract), 0);
        Due.is("24 are run", x.run(contract, 0, 24), 24);
    }

    // "BAD: act"
    private static void promise15_actsAreZeroToEight() {
        EngineVersions x = new EngineVersions();
        int contract = x.contract();
        for (int act = 0; act <= 8; act++) {
            Due.is("act " + act, x.act(contract, act, 0), act + 1);
        }
        for (int wrong : new int[] {-1, 9, MIN, MAX}) {
            Due.is("act " + wrong, x.act(contract, wrong, 0), BAD);
        }
    }

    // "of CALL v not 0 .. 7"
    private static void promise15_callsAreOfMembersZeroToSeven() {
        EngineVersions x = new EngineVersions();
        int contract = x.contract();
        Due.is("call 0", x.act(contract, CALL, 0), 1);
        Due.is("call 7", x.act(contract, CALL, 7), 2);
        for (int wrong : new int[] {-1, 8, MIN, MAX}) {
            Due.is("call " + wrong, x.act(contract, CALL, wrong), BAD);
        }
    }

    // A CALL is looked at when its CONTRACT is DEPLOYED, not before.
    private static void promise15_aCallOfAMemberThatIsNotThereIsTaken() {
        EngineVersions x = new EngineVersions();
        int contract = x.contract();
        Due.is("call 3", x.act(contract, CALL, 3), 1);
    }

    // "of STORE, FETCH not 0 .. 3"
    private static void promise15_storesAreOfCellsZeroToThree() {
        EngineVersions x = new EngineVersions();
        int contract = x.contract();
        Due.is("store 0", x.act(contract, STORE, 0), 1);
        Due.is("store 3", x.act(contract, STORE, 3), 2);
        for (int wrong : new int[] {-1, 4, 7, MIN, MAX}) {
            Due.is("store " + wrong, x.act(contract, STORE, wrong), BAD);
        }
    }

    private static void promise15_fetchesAreOfCellsZeroToThree() {
        EngineVersions x = new EngineVersions();
        int contract = x.contract();
        Due.is("fetch 0", x.act(contract, FETCH, 0), 1);
        Due.is("fetch 3", x.act(contract, FETCH, 3), 2);
        for (int wrong : new int[] {-1, 4, 7, MIN, MAX}) {
            Due.is("fetch " + wrong, x.act(contract, FETCH, wrong), BAD);
        }
    }

    // "(of PUSH any"
    private static void promise15_anyNumberIsPushed() {
        for (int number : new int[] {MIN, -1, 0, 1, MAX}) {
            EngineVersions x = new EngineVersions();
            int contract = deployed(x, PUSH, number, STORE, 0);
            x.run(contract, 0, 2);
            Due.is("push " + number, x.cell(contract, 0), number);
        }
    }

    // "else it is no matter)"
    private static void promise15_theNumberOfOtherActsIsNoMatter() {
        for (int number : new int[] {MIN, -1, 0, 4, 8, MAX}) {
            EngineVersions x = new EngineVersions();
            int contract = deployed(x, ARGUMENT, number, PUSH, 5, ADD, number, PUSH, 2, SUBTRACT, number,
                    PUSH, 6, MULTIPLY, number, PUSH, 3, DIVIDE, number, STORE, 0);
            x.run(contract, 4, 100);
            Due.is("with " + number, x.cell(contract, 0), 14);
        }
    }

    // "NO: it is DEPLOYED"
    private static void promise15_noOnceItIsDeployed() {
        EngineVersions x = new EngineVersions();
        int contract = x.contract();
        Due.is("before", x.act(contract, PUSH, 1), 1);
        x.deploy(contract);
        Due.is("behind", x.act(contract, PUSH, 1), NO);
        Due.is("it runs as it was", x.run(contract, 0, 100), 1);
    }

    // "open till it is DEPLOYED": a refused deployment leaves it open.
    private static void promise15_aRefusedDeploymentLeavesItOpen() {
        EngineVersions x = new EngineVersions();
        int contract = written(x, ADD, 0);
        Due.is("deploy", x.deploy(contract), TAKES_MORE);
        Due.is("an act more", x.act(contract, PUSH, 1), 2);
    }

    private static void promise15_badContractThatIsNotThere() {
        EngineVersions x = new EngineVersions();
        Due.is("without contracts", x.act(0, PUSH, 1), BAD);
        x.contract();
        for (int wrong : new int[] {-1, 1, 11, 12, MIN, MAX}) {
            Due.is("act(" + wrong + ", 0, 1)", x.act(wrong, PUSH, 1), BAD);
        }
    }

    private static void promise15_theTwelfthContract() {
        EngineVersions x = new EngineVersions();
        for (int number = 0; number <= 11; number++) {
            x.contract();
        }
        Due.is("act(11, 0, 1)", x.act(11, PUSH, 1), 1);
        Due.is("act(12, 0, 1)", x.act(12, PUSH, 1), BAD);
    }

    // "the first that fits"
    private static void promise15_badComesBeforeNo() {
        EngineVersions x = new EngineVersions();
        int contract = deployed(x, PUSH, 1);
        Due.is("act 9", x.act(contract, 9, 0), BAD);
        Due.is("act -1", x.act(contract, -1, 0), BAD);
        Due.is("call 8", x.act(contract, CALL, 8), BAD);
        Due.is("store 4", x.act(contract, STORE, 4), BAD);
        Due.is("fetch -1", x.act(contract, FETCH, -1), BAD);
    }

    private static void promise15_badComesBeforeFull() {
        EngineVersions x = new EngineVersions();
        int contract = of24Acts(x);
        Due.is("act 9", x.act(contract, 9, 0), BAD);
        Due.is("call 8", x.act(contract, CALL, 8), BAD);
        Due.is("store 4", x.act(contract, STORE, 4), BAD);
        Due.is("fetch -1", x.act(contract, FETCH, -1), BAD);
    }

    private static void promise15_noComesBeforeFull() {
        EngineVersions x = new EngineVersions();
        int contract = of24Acts(x);
        x.deploy(contract);
        Due.is("act 25 of a deployed one", x.act(contract, PUSH, 1), NO);
    }

    // "What is refused changes nothing."
    private static void promise15_whatIsRefusedChangesNothing() {
        refusedInTheScene("act(4, 0, 1)", BAD, x -> x.act(4, PUSH, 1));
        refusedInTheScene("act(2, 9, 1)", BAD, x -> x.act(2, 9, 1));
        refusedInTheScene("act(2, 6, 8)", BAD, x -> x.act(2, CALL, 8));
        refusedInTheScene("act(2, 7, 4)", BAD, x -> x.act(2, STORE, 4));
        refusedInTheScene("act(2, 8, -1)", BAD, x -> x.act(2, FETCH, -1));
        refusedInTheScene("act(0, 0, 1)", NO, x -> x.act(0, PUSH, 1));
        refusedInTheScene("act(1, 7, 0)", NO, x -> x.act(1, STORE, 0));
        refusedBehind(Promise15Test::of24Acts, "act(0, 7, 0)", FULL, x -> x.act(0, STORE, 0));
    }
}

/** Promise 21: replay. */
public final class Promise21Test extends Bench {
    public static void main(String[] args) throws IllegalAccessException {
        Due.allTestsOf(Promise21Test.class);
    }

    // "THE DIGEST of a REPLAY of the first n RUNS of THE LOG."
    private static void promise21_eachLengthFromZeroTo64() {
        EngineVersions x = new EngineVersions();
        int one = deployed(x, FETCH, 0, ARGUMENT, 0, ADD, 0, STORE, 0);
        int two = deployed(x, PUSH, 99, ARGUMENT, 0, STORE, 1, ARGUMENT, 0, DIVIDE, 0, STORE, 2);
        int[] due = new int[65];
        for (int i = 0; i < 64; i++) {
            x.run(i % 3 == 0 ? two : one, i % 5 - 2, i % 7);
            due[i + 1] = x.digest();
        }
        for (int n = 0; n <= 64; n++) {
            Due.is("replay(" + n + ")", x.replay(n), due[n]);
        }
        Due.is("replay(65)", x.replay(65), 0);
    }

    // "BAD: 0 (n below 0, or above how many there are)"
    private static void promise21_zeroBelowZero() {
        EngineVersions x = new EngineVersions();
        x.run(deployed(x, PUSH, 1), 0, 1);
        Due.is("replay(-1)", x.replay(-1), 0);
        Due.is("replay(MIN)", x.replay(MIN), 0);
    }

    private static void promise21_zeroAboveHowManyThereAre() {
        EngineVersions x = new EngineVersions();
        int contract = deployed(x, PUSH, 1);
        Due.is("replay(1) of none", x.replay(1), 0);
        x.run(contract, 0, 1);
        Due.is("replay(1) of one", x.replay(1), Promise20Test.behind(0, 1, 0, 0, 0, 0));
        for (int wrong : new int[] {2, 64, 65, MAX}) {
            Due.is("replay(" + wrong + ")", x.replay(wrong), 0);
        }
    }

    private static void promise21_noRunsAreZero() {
        EngineVersions x = new EngineVersions();
        Due.is("of an empty log", x.replay(0), 0);
        x.run(deployed(x, PUSH, 1), 0, 1);
        Due.is("of a log of one", x.replay(0), 0);
    }

    // "all RUNS of it anew on CELLS of 0"
    private static void promise21_onCellsOfZero() {
        EngineVersions x = new EngineVersions();
        int contract = deployed(x, FETCH, 0, ARGUMENT, 0, ADD, 0, STORE, 0);
        x.run(contract, 5, 4);
        x.run(contract, 6, 4);
        int first = Promise20Test.behind(0, 4, 5, 0, 0, 0);
        int second = Promise20Test.behind(first, 4, 11, 0, 0, 0);
        Due.is("replay(2)", x.replay(2), second);
        Due.is("replay(1)", x.replay(1), first);
        Due.is("replay(2) again", x.replay(2), second);
    }

    private static void promise21_allContractsBeginWithCellsOfZero() {
        EngineVersions x = new EngineVersions();
        int[] sums = new int[12];
        for (int number = 0; number <= 11; number++) {
            sums[number] = deployed(x, FETCH, 3, ARGUMENT, 0, ADD, 0, STORE, 3);
        }
        for (int i = 0; i < 36; i++) {
            x.run(sums[i % 12], i, 4);
        }
        Due.is("replay(36)", x.replay(36), x.digest());
        Due.is("replay(36) again", x.replay(36), x.digest());
    }

    // "What finds something has changed no CELL": in a replay too.
    private static void promise21_whatFoundSomethingFindsItAgain() {
        EngineVersions x = new EngineVersions();
        int contract = deployed(x, ARGUMENT, 0, STORE, 0, PUSH, 8, FETCH, 0, DIVIDE, 0, STORE, 1);
        x.run(contract, 4, 100);
        x.run(contract, 0, 100);
        x.run(contract, 3, 5);
        int digest = Promise20Test.behind(0, 6, 4, 2, 0, 0);
        digest = Promise20Test.behind(digest, ZERO, 4, 2, 0, 0);
        Due.is("replay(2)", x.replay(2), digest);
        Due.is("replay(3)", x.replay(3), Promise20Test.behind(digest, PRICE, 4, 2, 0, 0));
    }

    // "each by the EDITION that was in force at its HEIGHT"
    private static void promise21_byThePricesOfItsHeight() {
        EngineVersions x = withEditions(1);
        x.price(1, ARGUMENT, 30);
        x.propose(1, 5);
        int contract = deployed(x, ARGUMENT, 0, STORE, 0);
        x.rise(4);
        x.run(contract, 3, 10);
        int digest = Promise20Test.behind(0, 2, 3, 0, 0, 0);
        x.rise(1);
        Due.is("one height ahead", x.replay(1), digest);
        x.run(contract, 4, 10);
        digest = Promise20Test.behind(digest, PRICE, 3, 0, 0, 0);
        x.run(contract, 4, 31);
        digest = Promise20Test.behind(digest, 31, 4, 0, 0, 0);
        Due.is("at that height", x.replay(3), digest);
        x.rise(100);
        Due.is("later", x.replay(3), digest);
        Due.is("digest()", x.digest(), digest);
    }

    // "its MEANINGS are meant for ever"
    private static void promise21_byTheMeaningsThatAreKept() {
        EngineVersions x = withEditions(1);
        x.member(1, 0, LESS);
        x.edition(1);
        x.member(2, 0, SQUARE);
        putInForce(x, 1);
        int contract = deployed(x, ARGUMENT, 0, CALL, 0, STORE, 0);
        x.run(contract, 9, 3);
        putInForce(x, 2);
        x.run(contract, 8, 3);
        int digest = Promise20Test.behind(Promise20Test.behind(0, 3, -9, 0, 0, 0), 3, -8, 0, 0, 0);
        Due.is("replay(2)", x.replay(2), digest);
    }

    private static void promise21_aReplayChangesNothing() {
        refusedInTheScene("replay(5)", 0, x -> x.replay(5));
        refusedInTheScene("replay(-1)", 0, x -> x.replay(-1));
        EngineVersions x = new EngineVersions();
        scene(x);
        String before = shown(x);
        for (int n = 0; n <= 4; n++) {
            x.replay(n);
        }
        Due.same("replays", shown(x), before);
        EngineVersions y = new EngineVersions();
        scene(y);
        for (int n = 0; n <= 4; n++) {
            y.replay(n);
        }
        EngineVersions z = new EngineVersions();
        scene(z);
        Due.same("what came behind replays", whatBecomesOf(y), whatBecomesOf(z));
    }
}

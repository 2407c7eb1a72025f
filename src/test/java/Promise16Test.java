/** Promise 16: deploy. */
public final class Promise16Test extends Bench {
    public static void main(String[] args) throws IllegalAccessException {
        Due.allTestsOf(Promise16Test.class);
    }

    /** Member 3 is there, no other. */
    private static EngineVersions withMember3() {
        EngineVersions x = withEditions(1);
        x.member(1, 3, SIZE);
        putInForce(x, 1);
        return x;
    }

    private static int deploy(EngineVersions x, int... actsAndNumbers) {
        return x.deploy(written(x, actsAndNumbers));
    }

    // "A CONTRACT is DEPLOYED: the EDITION that it keeps."
    private static void promise16_theEditionInForce() {
        EngineVersions x = withEditions(2);
        Due.is("under 0", deploy(x, PUSH, 1), 0);
        putInForce(x, 2);
        Due.is("under 2", deploy(x, PUSH, 1), 2);
        putInForce(x, 1);
        Due.is("under 1", deploy(x, PUSH, 1), 1);
    }

    private static void promise16_fromItsHeightOn() {
        EngineVersions x = withEditions(1);
        x.propose(1, 5);
        x.rise(4);
        Due.is("one height ahead", deploy(x, PUSH, 1), 0);
        x.rise(1);
        Due.is("at that height", deploy(x, PUSH, 1), 1);
    }

    private static void promise16_notOneThatIsOver() {
        EngineVersions x = withEditions(1);
        x.node(1, ALL);
        x.member(1, 0, LESS);
        x.propose(1, 1);
        x.rise(1);
        Due.is("under 0", deploy(x, PUSH, 1), 0);
        Due.is("a member that never came", deploy(x, PUSH, 1, CALL, 0), NO_MEMBER);
    }

    // "NO: .. or has no ACTS"
    private static void promise16_noWithoutActs() {
        EngineVersions x = new EngineVersions();
        int contract = x.contract();
        Due.is("without acts", x.deploy(contract), NO);
        x.act(contract, PUSH, 1);
        Due.is("with one", x.deploy(contract), 0);
    }

    // "NO: it is"
    private static void promise16_noASecondTime() {
        EngineVersions x = withEditions(1);
        int contract = deployed(x, PUSH, 1);
        Due.is("again", x.deploy(contract), NO);
        putInForce(x, 1);
        Due.is("under another one", x.deploy(contract), NO);
    }

    // "the first that fits .. then RULES"
    private static void promise16_noComesBeforeTheRules() {
        EngineVersions x = withMember3();
        x.edition(0);
        int contract = deployed(x, PUSH, 1, CALL, 3);
        putInForce(x, 2);
        Due.is("deployed, and its member is gone", x.deploy(contract), NO);
    }

    private static void promise16_withTheMostActs() {
        EngineVersions x = new EngineVersions();
        int contract = x.contract();
        for (int i = 0; i < 24; i++) {
            x.act(contract, i % 2 == 0 ? FETCH : STORE, i % 4);
        }
        Due.is("24 acts", x.deploy(contract), 0);
        int wrong = x.contract();
        for (int i = 0; i < 23; i++) {
            x.act(wrong, i % 2 == 0 ? FETCH : STORE, i % 4);
        }
        x.act(wrong, ADD, 0);
        Due.is("the 24th takes more", x.deploy(wrong), TAKES_MORE);
    }

    // "1 a CALL of a MEMBER that the EDITION in force has not"
    private static void promise16_callOfAMemberThatIsNotThere() {
        EngineVersions x = withMember3();
        Due.is("member 3", deploy(x, ARGUMENT, 0, CALL, 3), 1);
        Due.is("member 2", deploy(x, ARGUMENT, 0, CALL, 2), NO_MEMBER);
        Due.is("member 4", deploy(x, ARGUMENT, 0, CALL, 4), NO_MEMBER);
    }

    private static void promise16_firstAndLastMember() {
        EngineVersions x = withEditions(1);
        x.member(1, 0, SIZE);
        x.member(1, 7, ONES);
        Due.is("0 is not there yet", deploy(x, PUSH, 1, CALL, 0), NO_MEMBER);
        Due.is("7 is not there yet", deploy(x, PUSH, 1, CALL, 7), NO_MEMBER);
        putInForce(x, 1);
        Due.is("0 is there", deploy(x, PUSH, 1, CALL, 0), 1);
        Due.is("7 is there", deploy(x, PUSH, 1, CALL, 7), 1);
        Due.is("6 is not", deploy(x, PUSH, 1, CALL, 6), NO_MEMBER);
    }

    private static void promise16_refusedNowDeployedLater() {
        EngineVersions x = withEditions(1);
        x.member(1, 3, SIZE);
        int contract = written(x, ARGUMENT, 0, CALL, 3);
        Due.is("not there yet", x.deploy(contract), NO_MEMBER);
        putInForce(x, 1);
        Due.is("now it is", x.deploy(contract), 1);
    }

    private static void promise16_aMemberThatWentAway() {
        EngineVersions x = withEditions(1);
        x.member(1, 3, SIZE);
        x.edition(0);
        putInForce(x, 1);
        Due.is("there", deploy(x, ARGUMENT, 0, CALL, 3), 1);
        putInForce(x, 2);
        Due.is("not there any more", deploy(x, ARGUMENT, 0, CALL, 3), NO_MEMBER);
    }

    // "2 it takes more than lies there", "a CONTRACT begins with nothing"
    private static void promise16_nothingLiesThereAtFirst() {
        EngineVersions x = withMember3();
        for (int act : new int[] {ADD, SUBTRACT, MULTIPLY, DIVIDE}) {
            Due.is("act " + act + " first", deploy(x, act, 0), TAKES_MORE);
        }
        Due.is("call first", deploy(x, CALL, 3), TAKES_MORE);
        Due.is("store first", deploy(x, STORE, 0), TAKES_MORE);
    }

    // "FETCH, PUSH, ARGUMENT lay one"
    private static void promise16_fetchPushAndArgumentTakeNothingAndLayOne() {
        EngineVersions x = new EngineVersions();
        for (int act : new int[] {FETCH, PUSH, ARGUMENT}) {
            Due.is("act " + act, deploy(x, act, 0), 0);
            Due.is("one is taken", deploy(x, act, 0, STORE, 0), 0);
            Due.is("two are not", deploy(x, act, 0, STORE, 0, STORE, 0), TAKES_MORE);
        }
    }

    // "ADD to DIVIDE take two and lay one"
    private static void promise16_twoAreTakenAndOneIsLaid() {
        for (int act : new int[] {ADD, SUBTRACT, MULTIPLY, DIVIDE}) {
            EngineVersions x = new EngineVersions();
            Due.is("of one", deploy(x, PUSH, 1, act, 0), TAKES_MORE);
            Due.is("of two", deploy(x, PUSH, 1, PUSH, 1, act, 0), 0);
            Due.is("one is left", deploy(x, PUSH, 1, PUSH, 1, act, 0, STORE, 0), 0);
            Due.is("not two", deploy(x, PUSH, 1, PUSH, 1, act, 0, act, 0), TAKES_MORE);
            Due.is("of three twice", deploy(x, PUSH, 1, PUSH, 1, PUSH, 1, act, 0, act, 0), 0);
            Due.is("then none", deploy(x, PUSH, 1, PUSH, 1, act, 0, STORE, 0, STORE, 0), TAKES_MORE);
        }
    }

    // "CALL takes one and lays one"
    private static void promise16_aCallTakesOneAndLaysOne() {
        EngineVersions x = withMember3();
        Due.is("of one", deploy(x, PUSH, 1, CALL, 3), 1);
        Due.is("one is left", deploy(x, PUSH, 1, CALL, 3, CALL, 3, STORE, 0), 1);
        Due.is("not two", deploy(x, PUSH, 1, CALL, 3, CALL, 3, STORE, 0, STORE, 0), TAKES_MORE);
        Due.is("two for an add are not there", deploy(x, PUSH, 1, CALL, 3, ADD, 0), TAKES_MORE);
    }

    // "STORE takes one"
    private static void promise16_aStoreTakesOneAndLaysNothing() {
        EngineVersions x = new EngineVersions();
        Due.is("of two", deploy(x, PUSH, 1, PUSH, 1, STORE, 0, STORE, 1), 0);
        Due.is("one is not left", deploy(x, PUSH, 1, PUSH, 1, STORE, 0, ADD, 0), TAKES_MORE);
    }

    private static void promise16_whatIsLeftLyingDoesNotMatter() {
        EngineVersions x = new EngineVersions();
        int contract = x.contract();
        for (int i = 0; i < 24; i++) {
            x.act(contract, PUSH, i);
        }
        Due.is("24 are left", x.deploy(contract), 0);
    }

    // "of the first ACT that breaks one the first"
    private static void promise16_ofOneActRuleOneComesFirst() {
        EngineVersions x = withMember3();
        Due.is("a call that breaks both", deploy(x, CALL, 2), NO_MEMBER);
        Due.is("a call that breaks rule 2", deploy(x, CALL, 3), TAKES_MORE);
        Due.is("a call that breaks rule 1", deploy(x, PUSH, 1, CALL, 2), NO_MEMBER);
    }

    private static void promise16_theFirstActThatBreaksOneTells() {
        EngineVersions x = withMember3();
        Due.is("2 ahead of 1", deploy(x, STORE, 0, CALL, 2), TAKES_MORE);
        Due.is("2 ahead of 1, which would be fine", deploy(x, PUSH, 1, ADD, 0, PUSH, 1, CALL, 2), TAKES_MORE);
        Due.is("1 ahead of 2", deploy(x, PUSH, 1, CALL, 2, ADD, 0), NO_MEMBER);
        Due.is("1 as the last act", deploy(x, PUSH, 1, PUSH, 1, ADD, 0, CALL, 2), NO_MEMBER);
    }

    private static void promise16_badContractThatIsNotThere() {
        EngineVersions x = new EngineVersions();
        Due.is("without contracts", x.deploy(0), BAD);
        x.contract();
        for (int wrong : new int[] {-1, 1, 11, 12, MIN, MAX}) {
            Due.is("deploy(" + wrong + ")", x.deploy(wrong), BAD);
        }
    }

    private static void promise16_theTwelfthContract() {
        EngineVersions x = new EngineVersions();
        for (int number = 0; number <= 11; number++) {
            x.contract();
        }
        x.act(11, PUSH, 1);
        Due.is("deploy(11)", x.deploy(11), 0);
        Due.is("deploy(12)", x.deploy(12), BAD);
        Due.is("deploy(10)", x.deploy(10), NO);
    }

    // A deployment is no RUN.
    private static void promise16_aDeploymentRunsNothing() {
        EngineVersions x = new EngineVersions();
        int contract = deployed(x, PUSH, 9, STORE, 0);
        Due.is("its cell", x.cell(contract, 0), 0);
        Due.is("the log", x.count(3), 0);
    }

    // "What is refused changes nothing."
    private static void promise16_whatIsRefusedChangesNothing() {
        refusedInTheScene("deploy(4)", BAD, x -> x.deploy(4));
        refusedInTheScene("deploy(0)", NO, x -> x.deploy(0));
        refusedInTheScene("deploy(1)", NO, x -> x.deploy(1));
        refusedInTheScene("deploy(3)", NO, x -> x.deploy(3));
        refusedBehind(Promise16Test::ruleBreakers, "deploy(4)", NO_MEMBER, x -> x.deploy(4));
        refusedBehind(Promise16Test::ruleBreakers, "deploy(5)", TAKES_MORE, x -> x.deploy(5));
    }

    private static void ruleBreakers(EngineVersions x) {
        scene(x);
        written(x, PUSH, 1, CALL, 5);
        written(x, PUSH, 1, ADD, 0);
    }
}

/** Promise 1: a new object. */
public final class Promise01Test extends Bench {
    public static void main(String[] args) throws IllegalAccessException {
        Due.allTestsOf(Promise01Test.class);
    }

    // "HEIGHT 0", "HEIGHT is 0 at first"
    private static void promise01_heightIsZero() {
        Due.is("count(4)", new EngineVersions().count(4), 0);
    }

    // "EDITION 0 is there from the beginning"
    private static void promise01_editionZeroIsThereAndNoOther() {
        EngineVersions x = new EngineVersions();
        Due.is("count(0)", x.count(0), 1);
        Due.is("about(0, 0, 0)", x.about(0, 0, 0), 1);
        Due.is("about(1, 0, 0)", x.about(1, 0, 0), BAD);
    }

    // "each price 1"
    private static void promise01_eachPriceOfEditionZeroIsOne() {
        EngineVersions x = new EngineVersions();
        for (int act = 0; act <= 8; act++) {
            Due.is("about(0, 0, " + act + ")", x.about(0, 0, act), 1);
        }
    }

    // "no MEMBERS"
    private static void promise01_editionZeroHasNoMembers() {
        EngineVersions x = new EngineVersions();
        for (int member = 0; member <= 7; member++) {
            Due.is("about(0, 1, " + member + ")", x.about(0, 1, member), NONE);
        }
    }

    // "EDITION 0 is in force from 0 on"
    private static void promise01_editionZeroIsInForceFromZeroOn() {
        EngineVersions x = new EngineVersions();
        Due.is("force(0)", x.force(0), 0);
        Due.is("about(0, 2, 0)", x.about(0, 2, 0), 0);
        Due.is("about(0, 3, 0)", x.about(0, 3, 0), IN_FORCE);
    }

    // "no NODES"
    private static void promise01_noNodes() {
        EngineVersions x = new EngineVersions();
        Due.is("count(1)", x.count(1), 0);
        Due.is("halted(0)", x.halted(0), BAD);
        Due.is("build(0, 1)", x.build(0, 1), BAD);
    }

    // "no CONTRACTS"
    private static void promise01_noContracts() {
        EngineVersions x = new EngineVersions();
        Due.is("count(2)", x.count(2), 0);
        Due.is("act(0, 0, 0)", x.act(0, PUSH, 0), BAD);
        Due.is("deploy(0)", x.deploy(0), BAD);
        Due.is("run(0, 0, 0)", x.run(0, 0, 0), BAD);
    }

    // "THE DIGEST: 0 at first"
    private static void promise01_theLogIsEmptyAndTheDigestZero() {
        EngineVersions x = new EngineVersions();
        Due.is("count(3)", x.count(3), 0);
        Due.is("logged(0, 0)", x.logged(0, 0), BAD);
        Due.is("digest()", x.digest(), 0);
        Due.is("replay(0)", x.replay(0), 0);
    }

    private static void promise01_objectsShareNothing() {
        EngineVersions used = new EngineVersions();
        EngineVersions other = new EngineVersions();
        String before = shown(other);
        scene(used);
        Due.same("another object", shown(other), before);
        Due.same("a later object", shown(new EngineVersions()), before);
    }

    // "An object is used for at most 512 calls after it has been made"
    private static void promise01_the512thCallIsAnswered() {
        EngineVersions x = new EngineVersions();
        int contract = x.contract();
        x.act(contract, ARGUMENT, 0);
        x.act(contract, STORE, 0);
        x.deploy(contract);
        for (int call = 5; call <= 511; call++) {
            int due = call <= 68 ? 2 : FULL;
            Due.is("call " + call, x.run(contract, call, 2), due);
        }
        Due.is("call 512", x.cell(contract, 0), 68);
    }

    // What later calls answer is free, but LANGUAGE.md (7) lets none of them throw.
    private static void promise01_laterCallsEndToo() {
        EngineVersions x = new EngineVersions();
        scene(x);
        for (int call = 0; call < 20000; call++) {
            x.edition(0);
            x.node(1, ALL);
            x.contract();
            x.act(2, PUSH, call);
            x.run(0, call, 400);
            x.rise(100);
            x.replay(64);
        }
        Due.is("it came to an end", 1, 1);
    }
}

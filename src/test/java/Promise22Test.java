/** Promise 22: count. */
public final class Promise22Test extends Bench {
    public static void main(String[] args) throws IllegalAccessException {
        Due.allTestsOf(Promise22Test.class);
    }

    // "0 EDITIONS, 1 NODES, 2 CONTRACTS, 3 RUNS in THE LOG, 4 HEIGHT"
    private static void promise22_eachHasItsNumber() {
        EngineVersions x = withEditions(1);
        x.node(1, 1);
        x.node(1, 1);
        x.node(1, 1);
        int contract = deployed(x, ARGUMENT, 0);
        x.contract();
        for (int i = 0; i < 5; i++) {
            x.run(contract, 0, i % 2);
        }
        x.rise(9);
        int[] due = {2, 3, 2, 5, 9};
        for (int what = 0; what < due.length; what++) {
            Due.is("count(" + what + ")", x.count(what), due[what]);
        }
    }

    private static void promise22_theLeast() {
        EngineVersions x = new EngineVersions();
        int[] due = {1, 0, 0, 0, 0};
        for (int what = 0; what < due.length; what++) {
            Due.is("count(" + what + ")", x.count(what), due[what]);
        }
    }

    private static void promise22_theMost() {
        EngineVersions x = new EngineVersions();
        int contract = deployed(x, PUSH, 1);
        for (int i = 0; i < 70; i++) {
            x.edition(0);
            x.node(1, ALL);
            x.contract();
            x.run(contract, 0, 1);
            x.rise(100);
        }
        int[] due = {10, 12, 12, 64, 1000};
        for (int what = 0; what < due.length; what++) {
            Due.is("count(" + what + ")", x.count(what), due[what]);
        }
    }

    // "BAD"
    private static void promise22_badWhat() {
        EngineVersions x = new EngineVersions();
        for (int wrong : new int[] {-1, 5, MIN, MAX}) {
            Due.is("count(" + wrong + ")", x.count(wrong), BAD);
        }
    }

    private static void promise22_whatIsRefusedIsNotCounted() {
        EngineVersions x = new EngineVersions();
        x.edition(1);
        x.node(0, 1);
        x.run(0, 0, 1);
        x.rise(101);
        int[] due = {1, 0, 0, 0, 0};
        for (int what = 0; what < due.length; what++) {
            Due.is("count(" + what + ")", x.count(what), due[what]);
        }
    }

    private static void promise22_askingChangesNothing() {
        refusedInTheScene("count(5)", BAD, x -> x.count(5));
        refusedInTheScene("count(-1)", BAD, x -> x.count(-1));
        refusedInTheScene("count(4)", 4, x -> x.count(4));
    }
}

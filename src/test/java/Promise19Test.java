/** Promise 19: logged. */
public final class Promise19Test extends Bench {
    public static void main(String[] args) throws IllegalAccessException {
        Due.allTestsOf(Promise19Test.class);
    }

    // "Of RUN i in THE LOG: 0 CONTRACT, 1 HEIGHT, 2 what it answered."
    private static void promise19_contractHeightAndAnswer() {
        EngineVersions x = new EngineVersions();
        int one = deployed(x, ARGUMENT, 0, STORE, 0);
        int two = deployed(x, PUSH, 1, ARGUMENT, 0, DIVIDE, 0, STORE, 0);
        x.run(two, 1, 10);
        x.rise(7);
        x.run(one, 1, 10);
        int[][] due = {{two, 0, 4}, {one, 7, 2}};
        for (int i = 0; i < due.length; i++) {
            for (int what = 0; what <= 2; what++) {
                Due.is("logged(" + i + ", " + what + ")", x.logged(i, what), due[i][what]);
            }
        }
    }

    // "(it is put to THE LOG, too)"
    private static void promise19_whatFoundSomethingIsThereToo() {
        EngineVersions x = new EngineVersions();
        int contract = deployed(x, PUSH, 1, ARGUMENT, 0, DIVIDE, 0);
        x.run(contract, 0, 2);
        x.run(contract, 0, 3);
        Due.is("price", x.logged(0, 2), PRICE);
        Due.is("zero", x.logged(1, 2), ZERO);
        Due.is("its contract", x.logged(1, 0), contract);
    }

    private static void promise19_anAnswerOfZero() {
        EngineVersions x = withEditions(1);
        x.price(1, PUSH, 0);
        putInForce(x, 1);
        x.run(deployed(x, PUSH, 1), 0, 0);
        Due.is("a free run", x.logged(0, 2), 0);
    }

    private static void promise19_heightsZeroAndAThousand() {
        EngineVersions x = new EngineVersions();
        int contract = deployed(x, PUSH, 1);
        x.run(contract, 0, 1);
        riseTo(x, 1000);
        x.run(contract, 0, 1);
        Due.is("the first", x.logged(0, 1), 0);
        Due.is("the second", x.logged(1, 1), 1000);
    }

    // "BAD": no such run
    private static void promise19_badInAnEmptyLog() {
        EngineVersions x = new EngineVersions();
        for (int what = 0; what <= 2; what++) {
            Due.is("logged(0, " + what + ")", x.logged(0, what), BAD);
        }
    }

    private static void promise19_badBehindTheLastRun() {
        EngineVersions x = new EngineVersions();
        int contract = deployed(x, PUSH, 1);
        x.run(contract, 0, 1);
        Due.is("logged(0, 0)", x.logged(0, 0), contract);
        for (int wrong : new int[] {1, 2, 63, 64, MAX}) {
            Due.is("logged(" + wrong + ", 0)", x.logged(wrong, 0), BAD);
        }
    }

    private static void promise19_badBelowZero() {
        EngineVersions x = new EngineVersions();
        x.run(deployed(x, PUSH, 1), 0, 1);
        Due.is("logged(-1, 0)", x.logged(-1, 0), BAD);
        Due.is("logged(MIN, 0)", x.logged(MIN, 0), BAD);
    }

    // "BAD": what
    private static void promise19_badWhat() {
        EngineVersions x = new EngineVersions();
        x.run(deployed(x, PUSH, 1), 0, 1);
        for (int wrong : new int[] {-1, 3, MIN, MAX}) {
            Due.is("logged(0, " + wrong + ")", x.logged(0, wrong), BAD);
        }
    }

    // "(64 at most)"
    private static void promise19_the64thRun() {
        EngineVersions x = new EngineVersions();
        int one = deployed(x, PUSH, 1);
        int two = deployed(x, PUSH, 1, PUSH, 2);
        for (int i = 0; i < 63; i++) {
            x.run(one, 0, 1);
        }
        Due.is("not yet", x.logged(63, 0), BAD);
        x.run(two, 0, 2);
        x.run(one, 0, 1);
        Due.is("logged(63, 0)", x.logged(63, 0), two);
        Due.is("logged(63, 2)", x.logged(63, 2), 2);
        Due.is("logged(64, 0)", x.logged(64, 0), BAD);
    }

    private static void promise19_refusedRunsAreNotThere() {
        EngineVersions x = new EngineVersions();
        int contract = deployed(x, PUSH, 1);
        x.run(contract, 0, -1);
        x.run(1, 0, 1);
        x.run(x.contract(), 0, 1);
        Due.is("logged(0, 0)", x.logged(0, 0), BAD);
    }

    private static void promise19_askingChangesNothing() {
        refusedInTheScene("logged(4, 0)", BAD, x -> x.logged(4, 0));
        refusedInTheScene("logged(0, 3)", BAD, x -> x.logged(0, 3));
        refusedInTheScene("logged(2, 2)", PRICE, x -> x.logged(2, 2));
    }
}

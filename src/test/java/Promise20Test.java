/** Promise 20: digest. */
public final class Promise20Test extends Bench {
    public static void main(String[] args) throws IllegalAccessException {
        Due.allTestsOf(Promise20Test.class);
    }

    /** "31 times it, and what the RUN answered; then for each CELL .. the upper 32 bits .. the lower 32 bits" */
    static int behind(int digest, int answer, long... cells) {
        int next = 31 * digest + answer;
        for (long cell : cells) {
            next = 31 * next + (int) (cell >> 32);
            next = 31 * next + (int) (cell & 0xFFFFFFFFL);
        }
        return next;
    }

    // "0 at first"
    private static void promise20_zeroAtFirst() {
        EngineVersions x = new EngineVersions();
        Due.is("new", x.digest(), 0);
        deployed(x, PUSH, 1);
        x.rise(1);
        Due.is("without runs", x.digest(), 0);
    }

    // 31 to the 8th is 852891037441: so these answers do not lean on behind(..).
    private static void promise20_oneRunByHand() {
        EngineVersions x = new EngineVersions();
        x.run(deployed(x, ARGUMENT, 0, STORE, 3), 0, 2);
        Due.is("2 times 31 to the 8th", x.digest(), (int) (2L * 852891037441L));
        EngineVersions y = new EngineVersions();
        y.run(deployed(y, ARGUMENT, 0, STORE, 3), 1, 2);
        Due.is("and 1", y.digest(), (int) (2L * 852891037441L + 1));
        EngineVersions z = new EngineVersions();
        z.run(deployed(z, ARGUMENT, 0, STORE, 3), 1L << 32, 2);
        Due.is("and 31", z.digest(), (int) (2L * 852891037441L + 31));
    }

    // "for each CELL of its CONTRACT in order"
    private static void promise20_eachCellInOrder() {
        for (int cell = 0; cell <= 3; cell++) {
            EngineVersions x = new EngineVersions();
            x.run(deployed(x, ARGUMENT, 0, STORE, cell), 5, 2);
            long[] cells = new long[4];
            cells[cell] = 5;
            Due.is("cell " + cell, x.digest(), behind(0, 2, cells));
        }
    }

    private static void promise20_theCellsOfItsOwnContractAlone() {
        EngineVersions x = new EngineVersions();
        int one = deployed(x, ARGUMENT, 0, STORE, 0);
        int two = deployed(x, ARGUMENT, 0, STORE, 1);
        x.run(one, 7, 2);
        x.run(two, 9, 2);
        Due.is("digest()", x.digest(), behind(behind(0, 2, 7, 0, 0, 0), 2, 0, 9, 0, 0));
    }

    // "(ints that wrap)"
    private static void promise20_wrapsOverManyRuns() {
        EngineVersions x = new EngineVersions();
        int contract = deployed(x, ARGUMENT, 0, STORE, 0);
        int digest = 0;
        for (int i = 0; i < 64; i++) {
            x.run(contract, i * 0x123456789ABCDEFL, 2);
            digest = behind(digest, 2, i * 0x123456789ABCDEFL, 0, 0, 0);
            Due.is("behind run " + i, x.digest(), digest);
        }
    }

    // "the upper 32 bits of the CELL, .. and the lower 32 bits"
    private static void promise20_upperAndLowerBitsAtTheEdges() {
        long[] values = {Long.MIN_VALUE, Long.MAX_VALUE, -1, 1L << 31, 1L << 32, (1L << 32) - 1, -1L << 32, -1L << 31};
        for (long value : values) {
            EngineVersions x = new EngineVersions();
            x.run(deployed(x, ARGUMENT, 0, STORE, 2), value, 2);
            Due.is("of " + value, x.digest(), behind(0, 2, 0, 0, value, 0));
        }
    }

    // "what the RUN answered": also what it found, with the cells as they were.
    private static void promise20_whatFoundSomethingCountsToo() {
        EngineVersions x = new EngineVersions();
        int contract = deployed(x, ARGUMENT, 0, STORE, 0, PUSH, 8, ARGUMENT, 0, DIVIDE, 0, STORE, 1);
        x.run(contract, 4, 100);
        int digest = behind(0, 6, 4, 2, 0, 0);
        x.run(contract, 0, 100);
        digest = behind(digest, ZERO, 4, 2, 0, 0);
        Due.is("zero", x.digest(), digest);
        x.run(contract, 3, 5);
        digest = behind(digest, PRICE, 4, 2, 0, 0);
        Due.is("price", x.digest(), digest);
    }

    private static void promise20_refusedRunsDoNotCount() {
        EngineVersions x = new EngineVersions();
        int contract = deployed(x, ARGUMENT, 0, STORE, 0);
        for (int i = 0; i < 64; i++) {
            x.run(contract, i, 2);
        }
        int digest = x.digest();
        x.run(contract, 0, -1);
        x.run(5, 0, 2);
        x.run(x.contract(), 0, 2);
        x.run(contract, 99, 2);
        Due.is("digest()", x.digest(), digest);
    }

    // "as they were": what comes later is no matter.
    private static void promise20_laterEditionsDoNotMatter() {
        EngineVersions x = withEditions(1);
        x.price(1, ARGUMENT, 90);
        x.run(deployed(x, ARGUMENT, 0, STORE, 0), 3, 50);
        int digest = x.digest();
        putInForce(x, 1);
        Due.is("digest()", x.digest(), digest);
    }

    private static void promise20_askingChangesNothing() {
        EngineVersions x = new EngineVersions();
        scene(x);
        int digest = x.digest();
        String before = shown(x);
        Due.is("digest()", x.digest(), digest);
        Due.same("digest()", shown(x), before);
    }
}

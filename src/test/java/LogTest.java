/** Promises 19 to 22: logged, digest, replay, count. */
public final class LogTest {
    private static final int MIN = Integer.MIN_VALUE;
    private static final int MAX = Integer.MAX_VALUE;
    private static final int BAD = EngineVersions.BAD;
    private static final int PUSH = 0, ARGUMENT = 1, ADD = 2, DIVIDE = 5, CALL = 6, STORE = 7, FETCH = 8;

    public static void main(String[] args) {
        loggedRuns();
        loggedIsRefused();
        digestByHand();
        digestOfLongCells();
        replaysOfEachLength();
        replayAcrossEditions();
        replayChangesNothing();
        replayIsRefused();
        counts();
        Due.end();
    }

    private static int deployed(EngineVersions x, int... actsAndNumbers) {
        int contract = x.contract();
        for (int i = 0; i + 1 < actsAndNumbers.length; i += 2) {
            x.act(contract, actsAndNumbers[i], actsAndNumbers[i + 1]);
        }
        Due.is("deployed", x.deploy(contract) >= 0 ? 1 : 0, 1);
        return contract;
    }

    private static void loggedRuns() {
        EngineVersions x = new EngineVersions();
        int one = deployed(x, ARGUMENT, 0, STORE, 0);
        int two = deployed(x, PUSH, 1, ARGUMENT, 0, DIVIDE, 0, STORE, 0);
        x.run(two, 1, 10);
        x.rise(7);
        x.run(one, 1, 1);
        x.rise(100);
        x.run(two, 0, 10);
        int[][] due = {{two, 0, 4}, {one, 7, -13}, {two, 107, -14}};
        for (int i = 0; i < due.length; i++) {
            for (int what = 0; what <= 2; what++) {
                Due.is("logged(" + i + ", " + what + ")", x.logged(i, what), due[i][what]);
            }
        }
    }

    private static void loggedIsRefused() {
        EngineVersions x = new EngineVersions();
        int one = deployed(x, ARGUMENT, 0);
        Due.is("no runs", x.logged(0, 0), BAD);
        x.run(one, 0, -1);
        Due.is("a refused run is none", x.logged(0, 0), BAD);
        x.run(one, 0, 1);
        for (int wrong : new int[] {-1, 1, 64, MIN, MAX}) {
            Due.is("logged(" + wrong + ", 0)", x.logged(wrong, 0), BAD);
        }
        for (int wrong : new int[] {-1, 3, MIN, MAX}) {
            Due.is("logged(0, " + wrong + ")", x.logged(0, wrong), BAD);
        }
        for (int i = 1; i < 64; i++) {
            x.run(one, 0, 1);
        }
        Due.is("the last one", x.logged(63, 2), 1);
        Due.is("none behind it", x.logged(64, 2), BAD);
    }

    private static int behind(int digest, int answer, long... cells) {
        int next = 31 * digest + answer;
        for (long cell : cells) {
            next = 31 * next + (int) (cell >> 32);
            next = 31 * next + (int) (cell & 0xFFFFFFFFL);
        }
        return next;
    }

    private static void digestByHand() {
        EngineVersions x = new EngineVersions();
        Due.is("no runs", x.digest(), 0);
        int one = deployed(x, ARGUMENT, 0, STORE, 3);
        int two = deployed(x, FETCH, 0, ARGUMENT, 0, ADD, 0, STORE, 0);
        x.run(one, 0, 2);
        // 2, and then eight times 31 times it: 2 * 31^8, as an int.
        Due.is("one run", x.digest(), (int) (2L * 852891037441L));
        int digest = behind(0, 2, 0, 0, 0, 0);
        x.run(one, -5, 2);
        digest = behind(digest, 2, 0, 0, 0, -5);
        Due.is("two runs", x.digest(), digest);
        x.run(two, 11, 100);
        digest = behind(digest, 4, 11, 0, 0, 0);
        Due.is("another contract's cells", x.digest(), digest);
        x.run(one, 77, 1);
        digest = behind(digest, -13, 0, 0, 0, -5);
        Due.is("a run that found something", x.digest(), digest);
        x.run(one, 77, -1);
        x.run(9, 77, 1);
        Due.is("refused runs do not matter", x.digest(), digest);
        Due.is("replay", x.replay(4), digest);
    }

    private static void digestOfLongCells() {
        EngineVersions x = new EngineVersions();
        int one = deployed(x, ARGUMENT, 0, STORE, 0);
        long[] values = {Long.MIN_VALUE, Long.MAX_VALUE, -1, 0x12345678_9ABCDEF0L, 1L << 32, (1L << 31), -1L << 32};
        int digest = 0;
        for (long value : values) {
            x.run(one, value, 2);
            digest = behind(digest, 2, value, 0, 0, 0);
            Due.is("digest of " + value, x.digest(), digest);
        }
    }

    private static void replaysOfEachLength() {
        EngineVersions x = new EngineVersions();
        int one = deployed(x, FETCH, 0, ARGUMENT, 0, ADD, 0, STORE, 0);
        int two = deployed(x, PUSH, 99, ARGUMENT, 0, STORE, 1, ARGUMENT, 0, DIVIDE, 0, STORE, 2);
        int[] due = new int[65];
        for (int i = 0; i < 64; i++) {
            x.run(i % 3 == 0 ? two : one, i % 5 - 2, i % 7);
            due[i + 1] = x.digest();
        }
        for (int n = 0; n <= 64; n++) {
            Due.is("replay(" + n + ")", x.replay(n), due[n]);
        }
        Due.is("the log is full", x.replay(65), 0);
    }

    private static void replayAcrossEditions() {
        EngineVersions x = new EngineVersions();
        x.edition(0);
        x.member(1, 0, 1);
        x.edition(1);
        x.member(2, 0, 2);
        x.price(2, ARGUMENT, 30);
        x.propose(1, 2);
        x.propose(2, 4);
        int plain = deployed(x, ARGUMENT, 0, STORE, 0);
        int digest = 0;
        Due.is("prices of 0", x.run(plain, 3, 10), 2);
        digest = behind(digest, 2, 3, 0, 0, 0);
        x.rise(2);
        int kept = deployed(x, ARGUMENT, 0, CALL, 0, STORE, 1);
        Due.is("prices of 1", x.run(kept, 3, 10), 3);
        digest = behind(digest, 3, 0, -3, 0, 0);
        x.rise(2);
        Due.is("too dear now", x.run(plain, 4, 10), -13);
        digest = behind(digest, -13, 3, 0, 0, 0);
        Due.is("dear, but kept in meaning", x.run(kept, 4, 100), 32);
        digest = behind(digest, 32, 0, -4, 0, 0);
        Due.is("digest", x.digest(), digest);
        Due.is("replay", x.replay(4), digest);
        x.rise(100);
        Due.is("replay later", x.replay(4), digest);
    }

    private static void replayChangesNothing() {
        EngineVersions x = new EngineVersions();
        int one = deployed(x, FETCH, 0, ARGUMENT, 0, ADD, 0, STORE, 0);
        x.run(one, 5, 4);
        x.run(one, 6, 4);
        int digest = x.digest();
        int short1 = x.replay(1);
        Due.is("cell", x.cell(one, 0), 11);
        Due.is("digest", x.digest(), digest);
        Due.is("runs", x.count(3), 2);
        Due.is("the same again", x.replay(1), short1);
        Due.is("all of it", x.replay(2), digest);
        Due.is("logged", x.logged(1, 2), 4);
        Due.is("run on", x.run(one, 7, 4), 4);
        Due.is("from the cell as it was", x.cell(one, 0), 18);
        Due.is("replay on", x.replay(3), x.digest());
    }

    private static void replayIsRefused() {
        EngineVersions x = new EngineVersions();
        int one = deployed(x, ARGUMENT, 0, STORE, 0);
        x.run(one, 5, 4);
        for (int wrong : new int[] {-1, 2, 64, 65, MIN, MAX}) {
            Due.is("replay(" + wrong + ")", x.replay(wrong), 0);
        }
        Due.is("replay(0)", x.replay(0), 0);
        Due.is("replay(1)", x.replay(1), behind(0, 2, 5, 0, 0, 0));
    }

    private static void counts() {
        EngineVersions x = new EngineVersions();
        x.edition(0);
        x.node(1, 1);
        x.node(1, 1);
        int one = deployed(x, ARGUMENT, 0);
        x.contract();
        x.contract();
        x.run(one, 0, 1);
        x.run(one, 0, 0);
        x.run(one, 0, 1);
        x.run(one, 0, 1);
        x.rise(9);
        int[] due = {2, 2, 3, 4, 9};
        for (int what = 0; what < due.length; what++) {
            Due.is("count(" + what + ")", x.count(what), due[what]);
        }
        for (int wrong : new int[] {-1, 5, MIN, MAX}) {
            Due.is("count(" + wrong + ")", x.count(wrong), BAD);
        }
    }
}

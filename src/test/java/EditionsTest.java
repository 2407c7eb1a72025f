/** Promises 1 to 6: a new object, edition, price, member, about, differs. */
public final class EditionsTest {
    private static final int MIN = Integer.MIN_VALUE;
    private static final int MAX = Integer.MAX_VALUE;

    public static void main(String[] args) {
        newObject();
        copiesOfEditions();
        editionIsRefused();
        prices();
        pricesAreRefused();
        members();
        membersAreRefused();
        changesEndWithTheProposal();
        aboutPricesAndMembers();
        aboutHeightsAndStates();
        aboutIsRefused();
        differences();
        differencesAreRefused();
        Due.end();
    }

    private static void newObject() {
        EngineVersions x = new EngineVersions();
        Due.is("new: editions", x.count(0), 1);
        Due.is("new: nodes", x.count(1), 0);
        Due.is("new: contracts", x.count(2), 0);
        Due.is("new: runs", x.count(3), 0);
        Due.is("new: height", x.count(4), 0);
        Due.is("new: digest", x.digest(), 0);
        Due.is("new: replay(0)", x.replay(0), 0);
        Due.is("new: force(0)", x.force(0), 0);
        for (int act = 0; act <= 8; act++) {
            Due.is("new: price of act " + act, x.about(0, 0, act), 1);
        }
        for (int member = 0; member <= 7; member++) {
            Due.is("new: member " + member, x.about(0, 1, member), EngineVersions.NONE);
        }
        Due.is("new: height of edition 0", x.about(0, 2, 0), 0);
        Due.is("new: state of edition 0", x.about(0, 3, 0), 2);
        Due.is("new: no edition 1", x.about(1, 0, 0), EngineVersions.BAD);
        Due.is("new: no node", x.halted(0), EngineVersions.BAD);
        Due.is("new: no contract", x.deploy(0), EngineVersions.BAD);
        Due.is("new: no log", x.logged(0, 0), EngineVersions.BAD);
        EngineVersions other = new EngineVersions();
        other.edition(0);
        Due.is("objects share nothing", x.count(0), 1);
    }

    private static void copiesOfEditions() {
        EngineVersions x = new EngineVersions();
        Due.is("edition(0)", x.edition(0), 1);
        x.price(1, 3, 44);
        x.price(1, 8, 0);
        x.member(1, 0, 5);
        x.member(1, 7, 2);
        Due.is("propose(1, 4)", x.propose(1, 4), 1);
        Due.is("edition(1)", x.edition(1), 2);
        Due.is("copied price 3", x.about(2, 0, 3), 44);
        Due.is("copied price 8", x.about(2, 0, 8), 0);
        Due.is("copied price 0", x.about(2, 0, 0), 1);
        Due.is("copied member 0", x.about(2, 1, 0), 5);
        Due.is("copied member 7", x.about(2, 1, 7), 2);
        Due.is("copied member 1", x.about(2, 1, 1), EngineVersions.NONE);
        Due.is("a copy is open", x.about(2, 3, 0), 0);
        Due.is("a copy has no height", x.about(2, 2, 0), EngineVersions.NONE);
        Due.is("a copy may be changed", x.price(2, 3, 9), 44);
        Due.is("its model stays", x.about(1, 0, 3), 44);
        Due.is("a copy's member may be changed", x.member(2, 0, 1), 5);
        Due.is("its model's member stays", x.about(1, 1, 0), 5);
        Due.is("a copy of a copy", x.edition(2), 3);
        Due.is("a copy of a copy's price", x.about(3, 0, 3), 9);
    }

    private static void editionIsRefused() {
        EngineVersions x = new EngineVersions();
        for (int like : new int[] {1, -1, 9, 10, MIN, MAX}) {
            Due.is("edition(" + like + ")", x.edition(like), EngineVersions.BAD);
        }
        for (int number = 1; number <= 9; number++) {
            Due.is("edition " + number, x.edition(number - 1), number);
        }
        Due.is("edition above 10", x.edition(0), EngineVersions.FULL);
        Due.is("edition above 10 again", x.edition(9), EngineVersions.FULL);
        Due.is("BAD before FULL", x.edition(10), EngineVersions.BAD);
        Due.is("BAD before FULL, below 0", x.edition(-1), EngineVersions.BAD);
        Due.is("editions", x.count(0), 10);
    }

    private static void prices() {
        EngineVersions x = new EngineVersions();
        x.edition(0);
        for (int act = 0; act <= 8; act++) {
            Due.is("price was 1", x.price(1, act, 10 + act), 1);
        }
        for (int act = 0; act <= 8; act++) {
            Due.is("price became", x.about(1, 0, act), 10 + act);
            Due.is("edition 0 keeps its price", x.about(0, 0, act), 1);
        }
        Due.is("price 0", x.price(1, 0, 0), 10);
        Due.is("price 100", x.price(1, 0, 100), 0);
        Due.is("price back", x.price(1, 0, 1), 100);
        Due.is("price unchanged", x.price(1, 0, 1), 1);
    }

    private static void pricesAreRefused() {
        EngineVersions x = new EngineVersions();
        x.edition(0);
        for (int wrong : new int[] {-1, 2, 10, MIN, MAX}) {
            Due.is("price of edition " + wrong, x.price(wrong, 0, 1), EngineVersions.BAD);
        }
        for (int wrong : new int[] {-1, 9, MIN, MAX}) {
            Due.is("price of act " + wrong, x.price(1, wrong, 1), EngineVersions.BAD);
        }
        for (int wrong : new int[] {-1, 101, MIN, MAX}) {
            Due.is("price " + wrong, x.price(1, 0, wrong), EngineVersions.BAD);
        }
        Due.is("price of edition 0", x.price(0, 0, 5), EngineVersions.NO);
        Due.is("BAD before NO: act", x.price(0, 9, 5), EngineVersions.BAD);
        Due.is("BAD before NO: price", x.price(0, 0, 101), EngineVersions.BAD);
        Due.is("nothing changed in 1", x.about(1, 0, 0), 1);
        Due.is("nothing changed in 0", x.about(0, 0, 0), 1);
    }

    private static void members() {
        EngineVersions x = new EngineVersions();
        x.edition(0);
        for (int meaning = 0; meaning <= 5; meaning++) {
            int before = meaning == 0 ? EngineVersions.NONE : meaning - 1;
            Due.is("member gets " + meaning, x.member(1, 3, meaning), before);
        }
        Due.is("member goes", x.member(1, 3, EngineVersions.NONE), 5);
        Due.is("member was gone", x.member(1, 3, EngineVersions.NONE), EngineVersions.NONE);
        for (int member = 0; member <= 7; member++) {
            Due.is("member " + member, x.member(1, member, member % 6), EngineVersions.NONE);
        }
        for (int member = 0; member <= 7; member++) {
            Due.is("meaning of " + member, x.about(1, 1, member), member % 6);
            Due.is("edition 0 has none", x.about(0, 1, member), EngineVersions.NONE);
        }
    }

    private static void membersAreRefused() {
        EngineVersions x = new EngineVersions();
        x.edition(0);
        for (int wrong : new int[] {-1, 2, 10, MIN, MAX}) {
            Due.is("member of edition " + wrong, x.member(wrong, 0, 0), EngineVersions.BAD);
        }
        for (int wrong : new int[] {-1, 8, MIN, MAX}) {
            Due.is("member " + wrong, x.member(1, wrong, 0), EngineVersions.BAD);
        }
        for (int wrong : new int[] {-2, 6, MIN, MAX}) {
            Due.is("meaning " + wrong, x.member(1, 0, wrong), EngineVersions.BAD);
        }
        Due.is("member of edition 0", x.member(0, 0, 0), EngineVersions.NO);
        Due.is("no member of edition 0", x.member(0, 0, EngineVersions.NONE), EngineVersions.NO);
        Due.is("BAD before NO: member", x.member(0, 8, 0), EngineVersions.BAD);
        Due.is("BAD before NO: meaning", x.member(0, 0, 6), EngineVersions.BAD);
        Due.is("nothing changed in 1", x.about(1, 1, 0), EngineVersions.NONE);
        Due.is("nothing changed in 0", x.about(0, 1, 0), EngineVersions.NONE);
    }

    private static void changesEndWithTheProposal() {
        EngineVersions x = new EngineVersions();
        x.edition(0);
        x.edition(0);
        x.node(1, 1023);
        x.propose(1, 1);
        x.propose(2, 2);
        Due.is("price of a proposed one", x.price(1, 0, 5), EngineVersions.NO);
        Due.is("member of a proposed one", x.member(1, 0, 5), EngineVersions.NO);
        x.vote(0, 1, true);
        x.rise(2);
        Due.is("1 is in force", x.about(1, 3, 0), 2);
        Due.is("price of one in force", x.price(1, 0, 5), EngineVersions.NO);
        Due.is("member of one in force", x.member(1, 0, 5), EngineVersions.NO);
        Due.is("2 is over", x.about(2, 3, 0), 3);
        Due.is("price of one over", x.price(2, 0, 5), EngineVersions.NO);
        Due.is("member of one over", x.member(2, 0, 5), EngineVersions.NO);
        Due.is("price stays", x.about(1, 0, 0), 1);
        Due.is("member stays", x.about(1, 1, 0), EngineVersions.NONE);
        Due.is("price of one over stays", x.about(2, 0, 0), 1);
    }

    private static void aboutPricesAndMembers() {
        EngineVersions x = new EngineVersions();
        x.edition(0);
        x.price(1, 0, 20);
        x.price(1, 8, 28);
        x.member(1, 0, 4);
        x.member(1, 7, 3);
        Due.is("about(1, 0, 0)", x.about(1, 0, 0), 20);
        Due.is("about(1, 0, 8)", x.about(1, 0, 8), 28);
        Due.is("about(1, 0, 1)", x.about(1, 0, 1), 1);
        Due.is("about(1, 1, 0)", x.about(1, 1, 0), 4);
        Due.is("about(1, 1, 7)", x.about(1, 1, 7), 3);
        Due.is("about(1, 1, 1)", x.about(1, 1, 1), EngineVersions.NONE);
    }

    private static void aboutHeightsAndStates() {
        EngineVersions x = new EngineVersions();
        x.edition(0);
        x.edition(0);
        Due.is("open: height", x.about(1, 2, 0), EngineVersions.NONE);
        Due.is("open: state", x.about(1, 3, 0), 0);
        x.propose(1, 7);
        x.propose(2, 9);
        Due.is("proposed: height", x.about(1, 2, 0), 7);
        Due.is("proposed: state", x.about(1, 3, 0), 1);
        Due.is("k is no matter", x.about(1, 2, MIN), 7);
        Due.is("k is no matter either", x.about(1, 3, MAX), 1);
        x.rise(6);
        Due.is("still proposed", x.about(1, 3, 0), 1);
        x.rise(1);
        Due.is("in force: height", x.about(1, 2, 0), 7);
        Due.is("in force: state", x.about(1, 3, 0), 2);
        x.node(1, 1023);
        x.rise(2);
        Due.is("over: height", x.about(2, 2, 0), 9);
        Due.is("over: state", x.about(2, 3, 0), 3);
        Due.is("0: height", x.about(0, 2, 99), 0);
        Due.is("0: state", x.about(0, 3, -99), 2);
    }

    private static void aboutIsRefused() {
        EngineVersions x = new EngineVersions();
        for (int wrong : new int[] {-1, 1, 10, MIN, MAX}) {
            for (int what = 0; what <= 3; what++) {
                Due.is("about edition " + wrong, x.about(wrong, what, 0), EngineVersions.BAD);
            }
        }
        for (int wrong : new int[] {-1, 4, MIN, MAX}) {
            Due.is("about what " + wrong, x.about(0, wrong, 0), EngineVersions.BAD);
        }
        for (int wrong : new int[] {-1, 9, MIN, MAX}) {
            Due.is("about act " + wrong, x.about(0, 0, wrong), EngineVersions.BAD);
        }
        for (int wrong : new int[] {-1, 8, MIN, MAX}) {
            Due.is("about member " + wrong, x.about(0, 1, wrong), EngineVersions.BAD);
        }
    }

    private static void differences() {
        EngineVersions x = new EngineVersions();
        x.edition(0);
        Due.is("copies do not differ", x.differs(0, 1, 0), EngineVersions.NONE);
        x.member(1, 0, 0);
        x.price(1, 8, 2);
        x.member(1, 7, 5);
        x.price(1, 0, 2);
        int[] due = {0, 8, 9, 16};
        for (int k = 0; k < due.length; k++) {
            Due.is("difference " + k, x.differs(0, 1, k), due[k]);
            Due.is("difference back " + k, x.differs(1, 0, k), due[k]);
        }
        Due.is("not so many", x.differs(0, 1, 4), EngineVersions.NONE);
        Due.is("not so many by far", x.differs(0, 1, MAX), EngineVersions.NONE);
        Due.is("k below 0", x.differs(0, 1, -1), EngineVersions.NONE);
        Due.is("k far below 0", x.differs(0, 1, MIN), EngineVersions.NONE);
        Due.is("one and the same", x.differs(1, 1, 0), EngineVersions.NONE);
        x.edition(1);
        x.member(2, 0, 1);
        Due.is("other meanings differ", x.differs(1, 2, 0), 9);
        Due.is("nothing else differs", x.differs(1, 2, 1), EngineVersions.NONE);
        x.member(2, 0, 0);
        Due.is("put back they do not", x.differs(1, 2, 0), EngineVersions.NONE);
        for (int act = 0; act <= 8; act++) {
            x.price(2, act, 50);
        }
        for (int member = 0; member <= 7; member++) {
            x.member(2, member, 3);
        }
        for (int k = 0; k <= 16; k++) {
            Due.is("all differ", x.differs(0, 2, k), k);
        }
        Due.is("no more than all", x.differs(0, 2, 17), EngineVersions.NONE);
    }

    private static void differencesAreRefused() {
        EngineVersions x = new EngineVersions();
        for (int wrong : new int[] {-1, 1, 10, MIN, MAX}) {
            Due.is("differs of " + wrong, x.differs(wrong, 0, 0), EngineVersions.BAD);
            Due.is("differs from " + wrong, x.differs(0, wrong, 0), EngineVersions.BAD);
            Due.is("BAD before NONE", x.differs(0, wrong, -1), EngineVersions.BAD);
        }
    }
}

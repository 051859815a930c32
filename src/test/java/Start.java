/** Objects that tests begin with. */
final class Start {
    static final int ALIVE = 1;
    static final int SUSPECT = 2;
    static final int DEAD = 3;

    private Start() {
    }

    static GossipMembership fresh() {
        return new GossipMembership();
    }

    /** Nodes 0 and 1, which know each other. */
    static GossipMembership two() {
        GossipMembership g = fresh();
        g.join(0, 0);
        g.join(1, 0);
        return g;
    }

    /** The nodes below a number, all of which know each other. */
    static GossipMembership all(int count) {
        GossipMembership g = fresh();
        for (int node = 0; node < count; node++) {
            g.join(node, node);
        }
        for (int node = 0; node < count; node++) {
            for (int other = 0; other < count; other++) {
                if (node != other) {
                    g.tell(node, other, ALIVE, 0);
                }
            }
        }
        return g;
    }

    /** Something of everything: nodes down again, cut links, suspects, dead, a fault, a saved state, a text. */
    static GossipMembership mixed() {
        GossipMembership g = all(5);
        g.setPatience(2);
        g.setFanOut(4);
        g.setHelpers(1);
        g.setSeed(77);
        g.crash(4);
        g.move(3, 2);
        g.cut(0, 1, true);
        g.rounds(3);
        g.save();
        type(g, "x");
        Check.nameOf(g::runText);
        g.tell(0, 5, SUSPECT, 3);
        g.tell(0, 0, DEAD, 4);
        g.tell(1, 6, DEAD, 2);
        g.rounds(2);
        type(g, "r1;");
        return g;
    }

    /**
     * Node 7 is the only one that takes a turn in the first round: it knows what it is told, and
     * node 6, which is up too, knows nobody that it could probe.
     */
    static GossipMembership prober() {
        GossipMembership g = fresh();
        g.join(6, 6);
        g.join(7, 7);
        return g;
    }

    /** All eight nodes, which know each other, after the rounds that this takes. */
    static GossipMembership full() {
        GossipMembership g = fresh();
        for (int node = 0; node < 8; node++) {
            g.join(node, 0);
        }
        g.roundsUntilAgreement(100);
        return g;
    }

    /**
     * Node 7 alone takes a turn in the next round, which is the second: it knows node 6 alone, and
     * all its counters are 0. Node 6 knows nobody and has a counter of 1 for itself.
     */
    static GossipMembership calm() {
        GossipMembership g = fresh();
        g.setFanOut(1);
        g.join(6, 6);
        g.join(7, 7);
        g.tell(7, 6, ALIVE, 0);
        g.rounds(1);
        g.crash(6);
        g.join(6, 6);
        g.setFanOut(3);
        return g;
    }

    static void tellWithCount(GossipMembership g, int node, int about, int state, int count) {
        tellWithCount(g, node, about, state, 0, count);
    }

    static void tellWithCount(GossipMembership g, int node, int about, int state, int incarnation, int count) {
        int fanOut = g.setFanOut(count);
        g.tell(node, about, state, incarnation);
        g.setFanOut(fanOut);
    }

    static void type(GossipMembership g, String text) {
        for (char sign : text.toCharArray()) {
            g.appendCharacter(sign);
        }
    }
}

/** Objects that tests begin with. */
final class Start {
    static final int ALIVE = 1;
    static final int SUSPECT = 2;
    static final int DEAD = 3;

    private Start() {
    }

    static GossipMembership fresh() {
        return new GossipMembership();
    }

    /** Nodes 0 and 1, which know each other. */
    static GossipMembership two() {
        GossipMembership g = fresh();
        g.join(0, 0);
        g.join(1, 0);
        return g;
    }

    /** The nodes below a number, all of which know each other. */
    static GossipMembership all(int count) {
        GossipMembership g = fresh();
        for (int node = 0; node < count; node++) {
            g.join(node, node);
        }
        for (int node = 0; node < count; node++) {
            for (int other = 0; other < count; other++) {
                if (node != other) {
                    g.tell(node, other, ALIVE, 0);
                }
            }
        }
        return g;
    }

    /** Something of everything: nodes down again, cut links, suspects, dead, a fault, a saved state, a text. */
    static GossipMembership mixed() {
        GossipMembership g = all(5);
        g.setPatience(2);
        g.setFanOut(4);
        g.setHelpers(1);
        g.setSeed(77);
        g.crash(4);
        g.move(3, 2);
        g.cut(0, 1, true);
        g.rounds(3);
        g.save();
        type(g, "x");
        Check.nameOf(g::runText);
        g.tell(0, 5, SUSPECT, 3);
        g.tell(0, 0, DEAD, 4);
        g.tell(1, 6, DEAD, 2);
        g.rounds(2);
        type(g, "r1;");
        return g;
    }

    /**
     * Node 7 is the only one that takes a turn in the first round: it knows what it is told, and
     * node 6, which is up too, knows nobody that it could probe.
     */
    static GossipMembership prober() {
        GossipMembership g = fresh();
        g.join(6, 6);
        g.join(7, 7);
        return g;
    }

    static void tellWithCount(GossipMembership g, int node, int about, int state, int count) {
        int fanOut = g.setFanOut(count);
        g.tell(node, about, state, 0);
        g.setFanOut(fanOut);
    }

    static void type(GossipMembership g, String text) {
        for (char sign : text.toCharArray()) {
            g.appendCharacter(sign);
        }
    }
}

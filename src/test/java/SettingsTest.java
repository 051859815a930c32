/** Promises 1 to 6: a new object, the settings and the seed. */
final class SettingsTest {
    private static final int[] FAR = {Integer.MIN_VALUE, -1, Integer.MAX_VALUE};

    private SettingsTest() {
    }

    static void run() {
        newObject();
        setPatience();
        setFanOut();
        setHelpers();
        setSeed();
        seed();
    }

    private static void newObject() {
        GossipMembership g = new GossipMembership();
        for (int node = 0; node < 8; node++) {
            Check.same("P1 up", g.isUp(node), false);
            Check.same("P1 partition", g.partition(node), 0);
            Check.same("P1 incarnation", g.incarnation(node), 0);
            for (int other = 0; other < 8; other++) {
                Check.same("P1 counter", g.counter(node, other), 0);
                if (other != node) {
                    Check.same("P1 view", g.view(node, other), 0);
                    Check.same("P1 incarnation of a view", g.viewIncarnation(node, other), 0);
                }
            }
        }
        Check.same("P1 seed", g.seed(), 1);
        Check.same("P1 round", g.round(), 0);
        Check.same("P1 quiet rounds", g.quietRounds(), 0);
        Check.same("P1 messages", g.messages(), 0);
        Check.same("P1 declarations", g.declarations(), 0);
        Check.same("P1 false declarations", g.falseDeclarations(), 0);
        Check.same("P1 refutations", g.refutations(), 0);
        Check.same("P1 agree", g.agree(), true);
        Check.same("P1 patience", g.setPatience(1), 3);
        Check.same("P1 fan-out", g.setFanOut(1), 3);
        Check.same("P1 helpers", g.setHelpers(1), 2);
        for (int node = 0; node < 8; node++) {
            for (int other = node + 1; other < 8; other++) {
                Check.same("P1 cut", g.cut(node, other, false), false);
            }
        }
        Check.same("P1 text", g.appendCharacter('r'), 1);
        GossipMembership other = new GossipMembership();
        Start.mixed();
        Check.same("P1 objects of their own", Reading.all(other), Reading.all(new GossipMembership()));
    }

    private static void setPatience() {
        GossipMembership g = Start.two();
        Check.same("P2 first", g.setPatience(20), 3);
        g.tell(0, 2, Start.SUSPECT, 0);
        Check.same("P2 second", g.setPatience(1), 20);
        g.tell(0, 3, Start.SUSPECT, 0);
        Check.same("P2 third", g.setPatience(7), 1);
        Check.same("P2 deadline that there is", g.deadline(0, 2), 20);
        Check.same("P2 deadline of the least patience", g.deadline(0, 3), 1);
        for (int bad : new int[] {0, 21}) {
            Check.refuses("P2 " + bad, Start::mixed, IllegalArgumentException.class, x -> x.setPatience(bad));
        }
        for (int bad : FAR) {
            Check.refuses("P2 " + bad, Start::mixed, IllegalArgumentException.class, x -> x.setPatience(bad));
        }
    }

    private static void setFanOut() {
        GossipMembership g = Start.two();
        Check.same("P3 first", g.setFanOut(9), 3);
        g.tell(0, 2, Start.ALIVE, 0);
        Check.same("P3 second", g.setFanOut(1), 9);
        g.tell(0, 3, Start.ALIVE, 0);
        g.tell(1, 1, Start.SUSPECT, 0);
        Check.same("P3 third", g.setFanOut(7), 1);
        Check.same("P3 counter that there is", g.counter(0, 2), 9);
        Check.same("P3 counter of the least fan-out", g.counter(0, 3), 1);
        Check.same("P3 own counter", g.counter(1, 1), 1);
        for (int bad : new int[] {0, 10}) {
            Check.refuses("P3 " + bad, Start::mixed, IllegalArgumentException.class, x -> x.setFanOut(bad));
        }
        for (int bad : FAR) {
            Check.refuses("P3 " + bad, Start::mixed, IllegalArgumentException.class, x -> x.setFanOut(bad));
        }
    }

    /** A node that probes one of four nodes that are down draws as many helpers as are wanted and left. */
    private static void setHelpers() {
        for (int helpers = 0; helpers <= 3; helpers++) {
            GossipMembership g = Start.fresh();
            g.join(0, 0);
            for (int other = 1; other <= 4; other++) {
                g.tell(0, other, Start.ALIVE, 0);
            }
            Check.same("P4 first", g.setHelpers(helpers), 2);
            g.rounds(1);
            Check.same("P4 draws with " + helpers, g.seed(), Draws.after(1, 1 + helpers));
            Check.same("P4 second", g.setHelpers(1), helpers);
        }
        Check.refuses("P4 4", Start::mixed, IllegalArgumentException.class, x -> x.setHelpers(4));
        for (int bad : FAR) {
            Check.refuses("P4 " + bad, Start::mixed, IllegalArgumentException.class, x -> x.setHelpers(bad));
        }
    }

    private static void setSeed() {
        GossipMembership g = Start.two();
        Check.same("P5 first", g.setSeed(0), 1);
        Check.same("P5 second", g.setSeed(Integer.MAX_VALUE), 0);
        Check.same("P5 third", g.setSeed(5), Integer.MAX_VALUE);
        for (int bad : new int[] {-1, Integer.MIN_VALUE}) {
            Check.refuses("P5 " + bad, Start::mixed, IllegalArgumentException.class, x -> x.setSeed(bad));
        }
    }

    private static void seed() {
        GossipMembership g = Start.two();
        Check.same("P6 at first", g.seed(), 1);
        g.rounds(1);
        // 1 becomes 1103527590, and this 377401575: the two draws of the two turns.
        Check.same("P6 after two draws", g.seed(), 377401575);
        g.setSeed(0);
        Check.same("P6 set", g.seed(), 0);
        g.crash(1);
        g.rounds(1);
        Check.same("P6 after a draw from 0", g.seed(), 12345);
        g.setSeed(Integer.MAX_VALUE);
        Check.same("P6 the greatest", g.seed(), Integer.MAX_VALUE);
        g.rounds(1);
        Check.same("P6 after a draw from the greatest", g.seed(), 1043980748);
    }
}

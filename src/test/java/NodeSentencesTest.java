/** The sentences of the description on nodes, links, views and settings: each at its ends. */
final class NodeSentencesTest {
    private NodeSentencesTest() {
    }

    static void run() {
        eightNodes();
        downAtFirst();
        fourPartitions();
        noLinkIsCutAtFirst();
        linkOfTwo();
        reachesIfAllHolds();
        incarnationNeverDecreases();
        viewsAtFirst();
        viewsOfOneThatIsDownStay();
        rangesOfSettings();
        deadlinesStayWhenThePatienceChanges();
        countersStayWhenTheFanOutChanges();
        crashLeavesPlaceAndLinks();
        upBeforeAtAnyTime();
        contactIsTheNodeItself();
        fullNetworkJoins();
        eachJoinsByEach();
    }

    /** "There are eight nodes, numbered from 0." */
    private static void eightNodes() {
        GossipMembership g = Start.fresh();
        for (int node = 0; node < 8; node++) {
            Check.same("eight nodes: join " + node, g.join(node, node), 0);
            Check.same("eight nodes: up " + node, g.isUp(node), true);
        }
        for (int node = 0; node < 8; node++) {
            Check.same("eight nodes: crash " + node, g.crash(node), 7 - node);
            Check.same("eight nodes: down " + node, g.isUp(node), false);
        }
        for (int none : new int[] {-1, 8}) {
            Check.raises("eight nodes: not " + none, IndexOutOfBoundsException.class, () -> g.join(none, none));
            Check.raises("eight nodes: not up " + none, IndexOutOfBoundsException.class, () -> g.isUp(none));
        }
    }

    /** "A node is up or down, at first down": in an empty network there is nothing to see or to do. */
    private static void downAtFirst() {
        GossipMembership g = Start.fresh();
        Check.same("empty: rounds", g.rounds(50), 50);
        Check.same("empty: rounds until agreement", g.roundsUntilAgreement(1), 0);
        Check.same("empty: no draws", g.seed(), 1);
        Check.same("empty: no messages", g.messages(), 0);
        Check.same("empty: no disagreements", g.disagreements(), 0);
        Check.same("empty: agree", g.agree(), true);
        Check.same("empty: all rounds are quiet", g.quietRounds(), 50);
        for (int node = 0; node < 8; node++) {
            Check.same("empty: down " + node, g.isUp(node), false);
            Check.same("empty: nobody alive for " + node, g.alive(node), 0);
            Check.same("empty: no counters of " + node, g.averageCounter(node), 0.0);
            for (int other = 0; other < 8; other++) {
                Check.same("empty: nobody reaches " + other, g.reaches(node, other), false);
            }
        }
    }

    /** "in a partition, a number from 0 to 3, at first 0" */
    private static void fourPartitions() {
        GossipMembership g = Start.fresh();
        g.join(7, 7);
        for (int node = 0; node < 8; node++) {
            Check.same("partitions: at first " + node, g.partition(node), 0);
            for (int to = 3; to >= 0; to--) {
                Check.same("partitions: from", g.move(node, to), to == 3 ? 0 : to + 1);
                Check.same("partitions: to " + to, g.partition(node), to);
            }
            int moved = node;
            Check.raises("partitions: not 4", IllegalArgumentException.class, () -> g.move(moved, 4));
            Check.raises("partitions: not -1", IllegalArgumentException.class, () -> g.move(moved, -1));
            Check.same("partitions: stays", g.partition(node), 0);
        }
    }

    /** "at first no link is" */
    private static void noLinkIsCutAtFirst() {
        GossipMembership g = Start.fresh();
        for (int node = 0; node < 8; node++) {
            for (int other = 0; other < 8; other++) {
                if (node != other) {
                    Check.same("no link cut: " + node + "-" + other, g.cut(node, other, false), false);
                }
            }
        }
        GossipMembership full = Start.full();
        for (int node = 0; node < 8; node++) {
            for (int other = 0; other < 8; other++) {
                Check.same("full: reaches " + node + "-" + other, full.reaches(node, other), node != other);
            }
        }
    }

    /** "The link between two nodes can be cut": both ways, and no other link with it. */
    private static void linkOfTwo() {
        for (int a = 0; a < 8; a += 7) {
            for (int b = 1; b < 7; b++) {
                GossipMembership g = Start.full();
                Check.same("cut: whole before", g.cut(a, b, true), false);
                for (int node = 0; node < 8; node++) {
                    for (int other = 0; other < 8; other++) {
                        boolean isCut = node == a && other == b || node == b && other == a;
                        Check.same("cut " + a + "-" + b + ": " + node + "-" + other,
                                g.reaches(node, other), node != other && !isCut);
                    }
                }
                Check.same("cut: before, the other way", g.cut(b, a, false), true);
                Check.same("cut: mended", g.reaches(a, b) && g.reaches(b, a), true);
            }
        }
    }

    /** "if both are up and in the same partition, and the link between them is not cut" */
    private static void reachesIfAllHolds() {
        for (int missing = 0; missing < 32; missing++) {
            GossipMembership g = Start.fresh();
            if ((missing & 1) == 0) {
                g.join(0, 0);
            }
            if ((missing & 2) == 0) {
                g.join(7, 7);
            }
            if ((missing & 4) != 0) {
                g.cut(0, 7, true);
            }
            g.move(0, missing >> 3);
            g.move(7, 3);
            boolean due = missing == 3 << 3;
            Check.same("reaches: first without " + missing, g.reaches(0, 7), due);
            Check.same("reaches: last without " + missing, g.reaches(7, 0), due);
            Check.same("reaches: never itself", g.reaches(0, 0) || g.reaches(7, 7), false);
        }
    }

    /** "an incarnation, a number that is 0 at first and never decreases" */
    private static void incarnationNeverDecreases() {
        GossipMembership g = Start.fresh();
        Check.same("incarnation: at first", g.incarnation(3), 0);
        Check.same("incarnation: up for the first time", g.join(3, 3), 0);
        g.tell(3, 3, Start.SUSPECT, 1000);
        Check.same("incarnation: after the greatest news", g.incarnation(3), 1001);
        g.tell(3, 3, Start.DEAD, 0);
        Check.same("incarnation: after the least news", g.incarnation(3), 1001);
        g.tell(3, 3, Start.DEAD, 1000);
        Check.same("incarnation: after news that is just too old", g.incarnation(3), 1001);
        g.crash(3);
        Check.same("incarnation: while it is down", g.incarnation(3), 1001);
        Check.same("incarnation: up again", g.join(3, 3), 1002);
        g.rounds(50);
        Check.same("incarnation: after rounds", g.incarnation(3), 1002);
        Check.same("incarnation: of the others", g.incarnation(2) + g.incarnation(4), 0);
    }

    /** "At first all views are unknown with the incarnation 0." */
    private static void viewsAtFirst() {
        GossipMembership g = Start.fresh();
        g.join(0, 0);
        g.join(7, 7);
        for (int node = 0; node < 8; node++) {
            for (int other = 0; other < 8; other++) {
                if (node != other) {
                    int a = node;
                    Check.same("views: unknown", g.view(node, other), 0);
                    Check.same("views: incarnation", g.viewIncarnation(node, other), 0);
                    Check.raises("views: no deadline", java.util.NoSuchElementException.class,
                            () -> g.deadline(a, (a + 1) % 8));
                }
            }
        }
    }

    /** "The views of a node that is down stay as they are", beyond each deadline too. */
    private static void viewsOfOneThatIsDownStay() {
        GossipMembership g = Start.full();
        int round = g.round();
        g.tell(7, 0, Start.SUSPECT, 4);
        g.tell(7, 1, Start.DEAD, 5);
        g.crash(7);
        g.tell(2, 0, Start.DEAD, 9);
        g.rounds(50);
        Check.same("down: the suspect", g.view(7, 0), 2);
        Check.same("down: its incarnation", g.viewIncarnation(7, 0), 4);
        Check.same("down: its deadline", g.deadline(7, 0), round + 3);
        Check.same("down: the dead one", g.view(7, 1), 3);
        Check.same("down: the alive ones", g.alive(7), 0b1111100);
        Check.same("down: no declaration by it", g.counter(7, 0), 3);
        g.join(7, 7);
        Check.same("down: forgotten when it joins", g.view(7, 0) + g.view(7, 1) + g.alive(7), 0);
    }

    /** "from 1 to 20 and 3 at first; .. from 1 to 9 and 3 at first; .. from 0 to 3 and 2 at first" */
    private static void rangesOfSettings() {
        GossipMembership g = Start.fresh();
        int before = 3;
        for (int patience = 1; patience <= 20; patience++) {
            Check.same("patience before " + patience, g.setPatience(patience), before);
            before = patience;
        }
        Check.raises("patience 21", IllegalArgumentException.class, () -> g.setPatience(21));
        Check.raises("patience 0", IllegalArgumentException.class, () -> g.setPatience(0));
        Check.same("patience after the refused ones", g.setPatience(1), 20);
        before = 3;
        for (int fanOut = 1; fanOut <= 9; fanOut++) {
            Check.same("fan-out before " + fanOut, g.setFanOut(fanOut), before);
            before = fanOut;
        }
        Check.raises("fan-out 10", IllegalArgumentException.class, () -> g.setFanOut(10));
        Check.raises("fan-out 0", IllegalArgumentException.class, () -> g.setFanOut(0));
        Check.same("fan-out after the refused ones", g.setFanOut(1), 9);
        before = 2;
        for (int helpers = 0; helpers <= 3; helpers++) {
            Check.same("helpers before " + helpers, g.setHelpers(helpers), before);
            before = helpers;
        }
        Check.raises("helpers 4", IllegalArgumentException.class, () -> g.setHelpers(4));
        Check.raises("helpers -1", IllegalArgumentException.class, () -> g.setHelpers(-1));
        Check.same("helpers after the refused ones", g.setHelpers(0), 3);
        Check.same("none of them is another", g.setPatience(1) * 100 + g.setFanOut(1) * 10 + g.setHelpers(0), 110);
    }

    /** "Deadlines that there are stay when the patience is changed", and views that become suspect then have others. */
    private static void deadlinesStayWhenThePatienceChanges() {
        GossipMembership g = Start.fresh();
        g.join(0, 0);
        g.setPatience(20);
        g.tell(0, 6, Start.SUSPECT, 0);
        g.setPatience(1);
        g.tell(0, 7, Start.SUSPECT, 0);
        Check.same("patience: the deadline there was", g.deadline(0, 6), 20);
        Check.same("patience: the next deadline", g.deadline(0, 7), 1);
        g.setPatience(9);
        Check.same("patience: both stay", g.deadline(0, 6) * 100 + g.deadline(0, 7), 2001);
        g.rounds(19);
        Check.same("patience: suspect up to the deadline", g.view(0, 6), 2);
        g.rounds(1);
        Check.same("patience: dead at the deadline", g.view(0, 6), 3);
    }

    /** The fan-out is "for counters that are set from now on". */
    private static void countersStayWhenTheFanOutChanges() {
        GossipMembership g = Start.two();
        g.setFanOut(9);
        Check.same("fan-out: the counters there were", g.counter(0, 0) * 10 + g.counter(0, 1), 33);
        g.tell(0, 7, Start.ALIVE, 0);
        Check.same("fan-out: the next counter", g.counter(0, 7), 9);
        g.setFanOut(1);
        Check.same("fan-out: it stays", g.counter(0, 7), 9);
        g.tell(0, 7, Start.ALIVE, 1);
        Check.same("fan-out: set again, also if that is less", g.counter(0, 7), 1);
        g.join(2, 2);
        Check.same("fan-out: of one that joins", g.counter(2, 2), 1);
    }

    /** A crash "makes a node down" and no more: it stays in its partition, and cut links stay cut. */
    private static void crashLeavesPlaceAndLinks() {
        GossipMembership g = Start.all(4);
        g.move(0, 2);
        g.move(3, 2);
        g.cut(3, 1, true);
        g.tell(3, 3, Start.DEAD, 6);
        g.crash(3);
        Check.same("crash: the partition", g.partition(3), 2);
        Check.same("crash: the incarnation", g.incarnation(3), 7);
        Check.same("crash: the views", g.alive(3), 0b111);
        Check.same("crash: views of it", g.view(0, 3), 1);
        Check.same("crash: the counters", g.averageCounter(3), 12.0 / 8.0);
        Check.same("crash: up again with a contact there", g.join(3, 0), 8);
        Check.same("crash: reached there", g.reaches(0, 3), true);
        g.move(1, 2);
        Check.same("crash: the link is cut still", g.reaches(1, 3), false);
        Check.same("crash: the link was cut", g.cut(1, 3, false), true);
        Check.same("crash: the link is mended", g.reaches(3, 1), true);
    }

    /** "A node was up before if it was up at any time", however long ago, and by whatever call. */
    private static void upBeforeAtAnyTime() {
        GossipMembership g = Start.fresh();
        g.join(0, 0);
        Check.same("up before: never", g.join(5, 0), 0);
        g.crash(5);
        g.move(5, 3);
        g.rounds(50);
        g.rounds(50);
        Check.same("up before: long ago", g.join(5, 5), 1);
        g.crash(5);
        g.move(5, 0);
        Check.same("up before: twice, and by a contact", g.join(5, 0), 2);
        Check.same("up before: moves are none", g.move(6, 2) + g.join(6, 6), 0);
        GossipMembership text = Start.fresh();
        Start.type(text, "j44;c4;j44;c4");
        text.runText();
        Check.same("up before: by commands", text.join(4, 4), 2);
        GossipMembership refused = Start.fresh();
        Check.raises("up before: refused", IllegalArgumentException.class, () -> refused.join(4, 5));
        Check.same("up before: a refused call is none", refused.join(4, 4), 0);
    }

    /** "the node itself if there is none" */
    private static void contactIsTheNodeItself() {
        for (int node = 0; node < 8; node += 7) {
            GossipMembership g = Start.all(7);
            if (node == 0) {
                g.crash(0);
            }
            Check.same("no contact: incarnation", g.join(node, node), node == 0 ? 1 : 0);
            Check.same("no contact: knows nobody", g.alive(node), 0);
            Check.same("no contact: one counter", g.averageCounter(node), 0.375);
            for (int other = 1; other < 7; other++) {
                Check.same("no contact: the others hear nothing", g.viewIncarnation(other, node), 0);
                Check.same("no contact: nor see it", g.view(other, node), node == 0 ? 1 : 0);
            }
        }
    }

    /** A full network: each node is told of all that its contact knows, and of the contact. */
    private static void fullNetworkJoins() {
        GossipMembership g = Start.fresh();
        for (int node = 0; node < 8; node++) {
            g.join(node, Math.max(0, node - 1));
            Check.same("full: knows those before " + node, g.alive(node), (1 << node) - 1);
        }
        for (int node = 0; node < 7; node++) {
            Check.same("full: knows the next too", g.alive(node), (1 << node) - 1 | 2 << node);
            int up = node;
            Check.raises("full: nobody joins", IllegalStateException.class, () -> g.join(up, 7));
        }
        Check.same("full: seven are left", g.crash(7), 7);
        Check.same("full: and eight again", g.join(7, 6), 1);
        Check.same("full: which knows them", g.alive(7), 0b1111111);
    }

    /**
     * "When a node joins, the contact stands at its own place in the ascending order, news about the node
     * itself can be refuted, and the contact takes in the incarnation that the node has then": with the
     * contact and the node at each place, and news about the node older, equal and newer than it is.
     */
    private static void eachJoinsByEach() {
        for (int node = 0; node < 8; node++) {
            for (int contact = 0; contact < 8; contact++) {
                for (int about = 0; node != contact && about < 9; about++) {
                    joinsBy(node, contact, 1 + about / 3, about % 3);
                }
            }
        }
    }

    private static void joinsBy(int node, int contact, int state, int incarnation) {
        GossipMembership g = Start.fresh();
        g.join(contact, contact);
        g.tell(contact, contact, Start.DEAD, 4);
        for (int third = 0; third < 8; third++) {
            if (third != contact && third != node) {
                g.tell(contact, third, 1 + third % 3, 10 + third);
            }
        }
        g.join(node, node);
        g.crash(node);
        g.tell(contact, node, state, incarnation);
        String what = node + " joins by " + contact + ", told of as " + state + " " + incarnation + ": ";
        boolean refuted = state != Start.ALIVE && incarnation >= 1;
        int due = refuted ? incarnation + 1 : 1;
        Check.same(what + "\"Returns the incarnation of the node\"", g.join(node, contact), due);
        Check.same(what + "which it has", g.incarnation(node), due);
        Check.same(what + "refutations", g.refutations(), refuted ? 2 : 1);
        Check.same(what + "for the contact alive", g.view(contact, node), Start.ALIVE);
        Check.same(what + "as it is then", g.viewIncarnation(contact, node), Math.max(due, incarnation));
        for (int third = 0; third < 8; third++) {
            if (third != node) {
                boolean itself = third == contact;
                Check.same(what + "state " + third, g.view(node, third), itself ? Start.ALIVE : 1 + third % 3);
                Check.same(what + "incarnation " + third, g.viewIncarnation(node, third), itself ? 5 : 10 + third);
                Check.same(what + "counter " + third, g.counter(node, third), 3);
            }
        }
        Check.same(what + "counter for itself", g.counter(node, node), 3);
    }
}

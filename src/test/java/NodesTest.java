/** Promises 7 to 10 and 13 to 17: nodes that join, crash and move, links, and what is told of nodes. */
final class NodesTest {
    private static final Class<IndexOutOfBoundsException> INDEX = IndexOutOfBoundsException.class;
    private static final Class<IllegalStateException> STATE = IllegalStateException.class;
    private static final Class<IllegalArgumentException> ARGUMENT = IllegalArgumentException.class;
    private static final int[] NO_NODES = {-1, 8, Integer.MIN_VALUE, Integer.MAX_VALUE};

    private NodesTest() {
    }

    static void run() {
        joinAlone();
        joinByContact();
        joinAgain();
        joinRefutes();
        joinRefused();
        crash();
        move();
        cut();
        round();
        tellsOfNodes();
        reaches();
    }

    private static void joinAlone() {
        GossipMembership g = Start.fresh();
        g.setFanOut(5);
        Check.same("P7 incarnation at first", g.join(3, 3), 0);
        Check.same("P7 up", g.isUp(3), true);
        Check.same("P7 own counter", g.counter(3, 3), 5);
        Check.same("P7 other counters", g.averageCounter(3), 5.0 / 8.0);
        Check.same("P7 knows nobody", g.alive(3), 0);
        Check.same("P7 messages", g.messages(), 0);
        Check.same("P7 seed", g.seed(), 1);
    }

    private static void joinByContact() {
        GossipMembership g = Start.fresh();
        g.join(4, 4);
        g.rounds(2);
        g.tell(4, 4, Start.DEAD, 1);
        g.tell(4, 0, Start.ALIVE, 7);
        g.tell(4, 2, Start.SUSPECT, 3);
        g.tell(4, 6, Start.DEAD, 5);
        g.setPatience(9);
        g.setFanOut(6);
        Check.same("P7 by a contact", g.join(5, 4), 0);
        Check.same("P7 of the contact", g.view(5, 4), 1);
        Check.same("P7 its own incarnation", g.viewIncarnation(5, 4), 2);
        Check.same("P7 alive ones", g.view(5, 0), 1);
        Check.same("P7 their incarnation", g.viewIncarnation(5, 0), 7);
        Check.same("P7 suspects", g.view(5, 2), 2);
        Check.same("P7 their deadline is new", g.deadline(5, 2), 11);
        Check.same("P7 the contact's stays", g.deadline(4, 2), 5);
        Check.same("P7 dead ones", g.view(5, 6), 3);
        Check.same("P7 unknown ones", g.view(5, 1), 0);
        Check.same("P7 their counters", g.counter(5, 1), 0);
        Check.same("P7 the contact learns", g.view(4, 5), 1);
        Check.same("P7 and passes on", g.counter(4, 5), 6);
        Check.same("P7 no counter falls", g.counter(4, 0), 3);
        Check.same("P7 what it passes on", g.averageCounter(5), 30.0 / 8.0);
        Check.same("P7 no message is counted", g.messages(), 0);
        Check.same("P7 no refutation", g.refutations(), 1);
        GossipMembership ends = Start.fresh();
        ends.join(7, 7);
        ends.tell(7, 0, Start.DEAD, 0);
        ends.tell(7, 6, Start.ALIVE, 0);
        Check.same("P7 by the last node", ends.join(0, 7), 1);
        Check.same("P7 which knows the first then", ends.viewIncarnation(7, 0), 1);
        Check.same("P7 whom it knew and itself", ends.alive(0), 0b11000000);
        Check.same("P7 the last by the first", ends.crash(7) + ends.join(7, 0), 2);
        Check.same("P7 the first and whom it knew", ends.alive(7), 0b1000001);
    }

    private static void joinAgain() {
        GossipMembership g = Start.all(3);
        g.tell(1, 5, Start.DEAD, 8);
        g.crash(1);
        Check.same("P7 views stay while down", g.view(1, 5), 3);
        Check.same("P7 again", g.join(1, 1), 1);
        Check.same("P7 forgets", g.view(1, 5), 0);
        Check.same("P7 forgets incarnations", g.viewIncarnation(1, 5), 0);
        Check.same("P7 forgets all", g.alive(1), 0);
        Check.same("P7 forgets counters", g.counter(1, 0), 0);
        Check.same("P7 own counter again", g.counter(1, 1), 3);
        Check.same("P7 others keep views", g.viewIncarnation(0, 1), 0);
        g.crash(1);
        Check.same("P7 a third time", g.join(1, 2), 2);
        Check.same("P7 the contact takes in", g.viewIncarnation(2, 1), 2);
        Check.same("P7 the node itself is not in its views", g.alive(1), 5);
        Check.same("P7 own counter with a contact", g.counter(1, 1), 3);
    }

    private static void joinRefutes() {
        GossipMembership g = Start.all(3);
        g.crash(1);
        g.tell(0, 1, Start.DEAD, 0);
        Check.same("P7 older news is not refuted", g.join(1, 0), 1);
        Check.same("P7 no refutation", g.refutations(), 0);
        g.crash(1);
        g.tell(0, 1, Start.SUSPECT, 6);
        g.setFanOut(2);
        Check.same("P7 the news is refuted", g.join(1, 0), 7);
        Check.same("P7 a refutation", g.refutations(), 1);
        Check.same("P7 the contact takes in the incarnation then", g.viewIncarnation(0, 1), 7);
        Check.same("P7 as alive", g.view(0, 1), 1);
        Check.same("P7 counter", g.counter(1, 1), 2);
        g.crash(1);
        g.tell(0, 1, Start.DEAD, 8);
        Check.same("P7 news of the same incarnation is refuted", g.join(1, 0), 9);
        g.crash(1);
        g.tell(0, 1, Start.ALIVE, 50);
        Check.same("P7 alive news is not", g.join(1, 0), 10);
        Check.same("P7 so that the contact stays ahead", g.viewIncarnation(0, 1), 50);
    }

    private static void joinRefused() {
        for (int bad : NO_NODES) {
            Check.refuses("P7 node " + bad, Start::mixed, INDEX, g -> g.join(bad, 0));
            Check.refuses("P7 contact " + bad, Start::mixed, INDEX, g -> g.join(4, bad));
            Check.refuses("P7 up, and contact " + bad, Start::mixed, INDEX, g -> g.join(0, bad));
        }
        Check.refuses("P7 up", Start::mixed, STATE, g -> g.join(0, 0));
        Check.refuses("P7 up, and the contact down", Start::mixed, STATE, g -> g.join(0, 4));
        Check.refuses("P7 the contact down", Start::mixed, ARGUMENT, g -> g.join(4, 5));
        Check.refuses("P7 the contact elsewhere", Start::mixed, ARGUMENT, g -> g.join(4, 3));
        GossipMembership elsewhere = Start.mixed();
        elsewhere.move(4, 2);
        Check.same("P7 the contact in the same partition", elsewhere.join(4, 3), 1);
        Check.refuses("P7 the link cut", NodesTest::withCutLink, ARGUMENT, g -> g.join(4, 0));
        Check.refuses("P7 the link cut the other way", NodesTest::withCutLink, ARGUMENT, g -> g.join(5, 0));
        Check.same("P7 by another contact", withCutLink().join(4, 1), 1);
    }

    private static GossipMembership withCutLink() {
        GossipMembership g = Start.mixed();
        g.cut(4, 0, true);
        g.cut(0, 5, true);
        return g;
    }

    private static void crash() {
        GossipMembership g = Start.all(3);
        Check.same("P8 how many are up", g.crash(1), 2);
        Check.same("P8 down", g.isUp(1), false);
        Check.same("P8 views stay", g.alive(1), 5);
        Check.same("P8 views of it stay", g.view(0, 1), 1);
        Check.same("P8 counters stay", g.counter(1, 0), 3);
        g.rounds(9);
        Check.same("P8 views stay in rounds", g.alive(1), 5);
        Check.same("P8 it sends nothing", g.counter(1, 0), 3);
        Check.same("P8 the next", g.crash(0), 1);
        Check.same("P8 the last", g.crash(2), 0);
        for (int bad : NO_NODES) {
            Check.refuses("P8 node " + bad, Start::mixed, INDEX, x -> x.crash(bad));
        }
        Check.refuses("P8 down again", Start::mixed, STATE, x -> x.crash(4));
        Check.refuses("P8 never up", Start::mixed, STATE, x -> x.crash(7));
    }

    private static void move() {
        GossipMembership g = Start.two();
        Check.same("P9 from 0", g.move(1, 3), 0);
        Check.same("P9 from 3", g.move(1, 2), 3);
        Check.same("P9 where it is", g.partition(1), 2);
        Check.same("P9 to the same", g.move(1, 2), 2);
        Check.same("P9 one that is down", g.move(7, 1), 0);
        Check.same("P9 where that one is", g.partition(7), 1);
        Check.same("P9 others stay", g.partition(0), 0);
        for (int bad : NO_NODES) {
            Check.refuses("P9 node " + bad, Start::mixed, INDEX, x -> x.move(bad, 1));
            Check.refuses("P9 both, node " + bad, Start::mixed, INDEX, x -> x.move(bad, 4));
        }
        for (int bad : new int[] {-1, 4, Integer.MIN_VALUE, Integer.MAX_VALUE}) {
            Check.refuses("P9 partition " + bad, Start::mixed, ARGUMENT, x -> x.move(0, bad));
        }
    }

    private static void cut() {
        GossipMembership g = Start.all(3);
        Check.same("P10 cut", g.cut(0, 1, true), false);
        Check.same("P10 cut already", g.cut(1, 0, true), true);
        Check.same("P10 reaches no more", g.reaches(0, 1), false);
        Check.same("P10 nor the other way", g.reaches(1, 0), false);
        Check.same("P10 other links stand", g.reaches(0, 2), true);
        Check.same("P10 mended", g.cut(1, 0, false), true);
        Check.same("P10 whole already", g.cut(0, 1, false), false);
        Check.same("P10 reaches again", g.reaches(0, 1), true);
        Check.same("P10 of nodes that are down", g.cut(6, 7, true), false);
        Check.same("P10 once more", g.cut(7, 6, false), true);
        for (int bad : NO_NODES) {
            Check.refuses("P10 node " + bad, Start::mixed, INDEX, x -> x.cut(bad, 0, true));
            Check.refuses("P10 other " + bad, Start::mixed, INDEX, x -> x.cut(0, bad, true));
            Check.refuses("P10 both " + bad, Start::mixed, INDEX, x -> x.cut(bad, bad, false));
        }
        Check.refuses("P10 the same", Start::mixed, ARGUMENT, x -> x.cut(2, 2, true));
    }

    private static void round() {
        GossipMembership g = Start.fresh();
        Check.same("P13 at first", g.round(), 0);
        g.rounds(50);
        Check.same("P13 also if all are down", g.round(), 50);
        g.rounds(1);
        Check.same("P13 then", g.round(), 51);
    }

    private static void tellsOfNodes() {
        GossipMembership g = Start.two();
        g.crash(1);
        g.move(0, 3);
        g.tell(0, 0, Start.DEAD, 1000);
        Check.same("P14 up", g.isUp(0), true);
        Check.same("P14 down again", g.isUp(1), false);
        Check.same("P14 never up", g.isUp(7), false);
        Check.same("P15 moved", g.partition(0), 3);
        Check.same("P15 not moved", g.partition(7), 0);
        Check.same("P16 after news", g.incarnation(0), 1001);
        Check.same("P16 at first", g.incarnation(7), 0);
        g.join(1, 1);
        Check.same("P16 after joining again", g.incarnation(1), 1);
        for (int bad : NO_NODES) {
            Check.refuses("P14 " + bad, Start::mixed, INDEX, x -> x.isUp(bad));
            Check.refuses("P15 " + bad, Start::mixed, INDEX, x -> x.partition(bad));
            Check.refuses("P16 " + bad, Start::mixed, INDEX, x -> x.incarnation(bad));
        }
    }

    private static void reaches() {
        GossipMembership g = Start.all(4);
        Check.same("P17 up", g.reaches(0, 3), true);
        Check.same("P17 itself", g.reaches(2, 2), false);
        Check.same("P17 down", g.reaches(0, 7), false);
        Check.same("P17 from down", g.reaches(7, 0), false);
        Check.same("P17 both down", g.reaches(6, 7), false);
        g.move(3, 1);
        Check.same("P17 another partition", g.reaches(0, 3), false);
        g.move(0, 1);
        Check.same("P17 the same partition", g.reaches(0, 3), true);
        g.cut(3, 0, true);
        Check.same("P17 a cut link", g.reaches(0, 3), false);
        g.tell(1, 2, Start.DEAD, 0);
        Check.same("P17 whatever the view", g.reaches(1, 2), true);
        for (int bad : NO_NODES) {
            Check.refuses("P17 node " + bad, Start::mixed, INDEX, x -> x.reaches(bad, 0));
            Check.refuses("P17 other " + bad, Start::mixed, INDEX, x -> x.reaches(0, bad));
        }
    }
}

import java.util.function.Consumer;

/** Promises 18 to 30, 34 and 35, and the details on what is counted: each sentence at its ends. */
final class MeasureSentencesTest {
    private MeasureSentencesTest() {
    }

    static void run() {
        statesOfViews();
        countersOfFullNetwork();
        setsOfAliveNodes();
        agreementOfTwo();
        agreementOnThirdNodes();
        agreementOfFullNetwork();
        nobodyReachedAgrees();
        downOnesAreCompared();
        mostDisagreements();
        disagreementsOfPairs();
        countsAtFirst();
        quietRoundsFromTheBeginning();
        quietRoundsSinceCalls();
        quietRoundsSinceChanges();
        quietIfOnlyCountersChange();
        averages();
        shares();
    }

    /** "0 unknown, 1 alive, 2 suspect, 3 dead", from the first node to the last and back */
    private static void statesOfViews() {
        GossipMembership g = Start.fresh();
        g.join(0, 0);
        g.join(7, 7);
        for (int state = 0; state <= 3; state++) {
            if (state != 0) {
                g.tell(0, 7, state, 10 * state);
                g.tell(7, 0, state, 1000);
            }
            Check.same("views: the last", g.view(0, 7), state);
            Check.same("views: the first", g.view(7, 0), state);
            Check.same("views: incarnation of the last", g.viewIncarnation(0, 7), 10 * state);
            Check.same("views: incarnation of the first", g.viewIncarnation(7, 0), state == 0 ? 0 : 1000);
            int due = state;
            Check.same("views: deadline", Reading.answer(() -> g.deadline(0, 7)),
                    due == Start.SUSPECT ? "3" : "NoSuchElementException");
        }
    }

    /** "the node that the news is about, also the node itself": each of the 64 counters is its own. */
    private static void countersOfFullNetwork() {
        GossipMembership g = Start.fresh();
        for (int node = 0; node < 8; node++) {
            g.setFanOut(node + 1);
            g.join(node, node);
        }
        for (int node = 0; node < 8; node++) {
            for (int about = 0; about < 8; about++) {
                if (about != node) {
                    g.setFanOut(1 + (node + 3 * about) % 9);
                    g.tell(node, about, Start.ALIVE, 0);
                }
            }
        }
        for (int node = 0; node < 8; node++) {
            for (int about = 0; about < 8; about++) {
                Check.same("counters: " + node + " about " + about, g.counter(node, about),
                        about == node ? node + 1 : 1 + (node + 3 * about) % 9);
            }
        }
    }

    /** "bit k for node k", "the node itself not included": none, one at each end, and all */
    private static void setsOfAliveNodes() {
        GossipMembership g = Start.all(8);
        for (int node = 0; node < 8; node++) {
            Check.same("alive: all for " + node, g.alive(node), 255 - (1 << node));
        }
        for (int other = 0; other < 7; other++) {
            g.tell(7, other, other % 2 == 0 ? Start.SUSPECT : Start.DEAD, 0);
            Check.same("alive: without those up to " + other, g.alive(7), 127 & ~((2 << other) - 1));
        }
        Check.same("alive: none", g.alive(7), 0);
        GossipMembership ends = Start.fresh();
        ends.join(3, 3);
        ends.tell(3, 0, Start.ALIVE, 0);
        Check.same("alive: the first alone", ends.alive(3), 1);
        ends.tell(3, 7, Start.ALIVE, 0);
        Check.same("alive: the last too", ends.alive(3), 129);
        Check.same("alive: of one that knows nobody", ends.alive(0), 0);
    }

    /** "each of the two is alive with its own incarnation in the view of the other one" */
    private static void agreementOfTwo() {
        int[][] pairs = {{0, 1}, {1, 0}, {0, 7}, {7, 0}, {6, 7}, {7, 6}};
        for (int[] pair : pairs) {
            for (int state = 0; state <= 3; state++) {
                for (int incarnation = 4; incarnation <= 6; incarnation++) {
                    GossipMembership g = Start.fresh();
                    g.join(pair[0], pair[0]);
                    g.join(pair[1], pair[1]);
                    g.tell(pair[1], pair[1], Start.DEAD, 4);
                    g.tell(pair[1], pair[0], Start.ALIVE, 0);
                    if (state != 0) {
                        g.tell(pair[0], pair[1], state, incarnation);
                    }
                    Check.same("agree: " + pair[1] + " held " + state + "/" + incarnation, g.agree(),
                            state == Start.ALIVE && incarnation == 5);
                    Check.same("agree: disagreements only about third ones", g.disagreements(), 0);
                }
            }
        }
    }

    /** "the same state and incarnation in their views of each third node", known or not, down or up */
    private static void agreementOnThirdNodes() {
        for (int third = 2; third < 8; third++) {
            GossipMembership g = Start.two();
            g.tell(1, third, Start.ALIVE, 0);
            Check.same("third " + third + ": unknown to one", g.agree(), false);
            Check.same("third " + third + ": one disagreement", g.disagreements(), 1);
            g.tell(0, third, Start.ALIVE, 0);
            Check.same("third " + third + ": the same", g.agree(), true);
            g.tell(0, third, Start.ALIVE, 1);
            Check.same("third " + third + ": another incarnation", g.agree(), false);
            g.tell(1, third, Start.SUSPECT, 1);
            Check.same("third " + third + ": another state", g.agree(), false);
            Check.same("third " + third + ": one disagreement still", g.disagreements(), 1);
            g.setPatience(9);
            g.tell(0, third, Start.SUSPECT, 1);
            Check.same("third " + third + ": another deadline alone", g.agree(), true);
            Check.same("third " + third + ": no disagreement", g.disagreements(), 0);
        }
    }

    /** Any two of eight, and any third: one view that differs is enough. */
    private static void agreementOfFullNetwork() {
        Check.same("full: agree", Start.all(8).agree(), true);
        Check.same("full: no disagreements", Start.all(8).disagreements(), 0);
        for (int node = 0; node < 8; node++) {
            for (int about = 0; about < 8; about++) {
                if (node != about) {
                    GossipMembership g = Start.all(8);
                    g.tell(node, about, Start.SUSPECT, 0);
                    Check.same("full: " + node + " suspects " + about, g.agree(), false);
                    Check.same("full: six pairs differ then", g.disagreements(), 6);
                }
            }
            GossipMembership g = Start.all(8);
            g.tell(node, node, Start.DEAD, 0);
            Check.same("full: a new incarnation of " + node, g.agree(), false);
            Check.same("full: it is nobody's view", g.disagreements(), 0);
        }
    }

    /** "If no two nodes can reach each other, all agree, and no round is needed." */
    private static void nobodyReachedAgrees() {
        GossipMembership one = Start.fresh();
        one.join(5, 5);
        one.tell(5, 0, Start.DEAD, 9);
        Check.same("apart: one alone", one.agree(), true);
        GossipMembership places = Start.all(4);
        places.tell(0, 1, Start.DEAD, 0);
        places.tell(2, 7, Start.DEAD, 0);
        Check.same("apart: not yet", places.agree(), false);
        for (int node = 0; node < 4; node++) {
            places.move(node, node);
        }
        Check.same("apart: four partitions", places.agree(), true);
        Check.same("apart: four partitions, disagreements", places.disagreements(), 0);
        Check.same("apart: no round is needed", places.roundsUntilAgreement(1), 0);
        GossipMembership links = Start.all(4);
        links.tell(3, 0, Start.DEAD, 0);
        for (int node = 0; node < 4; node++) {
            for (int other = node + 1; other < 4; other++) {
                Check.same("apart: links still stand", links.agree(), false);
                Check.same("apart: so there are disagreements", links.disagreements() > 0, true);
                links.cut(node, other, true);
            }
        }
        Check.same("apart: all links cut", links.agree(), true);
        Check.same("apart: all links cut, disagreements", links.disagreements(), 0);
    }

    /** "Nodes that are down are compared in views like others", and have nothing to say themselves. */
    private static void downOnesAreCompared() {
        GossipMembership g = Start.all(3);
        g.crash(2);
        g.tell(0, 2, Start.DEAD, 0);
        Check.same("down: compared", g.agree(), false);
        Check.same("down: one disagreement", g.disagreements(), 1);
        g.tell(1, 2, Start.DEAD, 0);
        Check.same("down: the same", g.agree(), true);
        GossipMembership own = Start.all(3);
        own.tell(2, 7, Start.DEAD, 0);
        own.crash(2);
        Check.same("down: its own views are not compared", own.agree(), true);
        Check.same("down: no disagreements with it", own.disagreements(), 0);
    }

    /** "the number of pairs of two nodes .. and a third node": 28 pairs and six third ones each */
    private static void mostDisagreements() {
        GossipMembership g = Start.fresh();
        for (int node = 0; node < 8; node++) {
            g.join(node, node);
        }
        Check.same("most: eight that know nobody", g.disagreements(), 0);
        Check.same("most: but do not agree", g.agree(), false);
        for (int node = 0; node < 8; node++) {
            for (int about = 0; about < 8; about++) {
                if (about != node) {
                    g.tell(node, about, Start.ALIVE, node);
                }
            }
        }
        Check.same("most: 168", g.disagreements(), 168);
        g.crash(7);
        Check.same("most: 21 pairs are left", g.disagreements(), 126);
        for (int node = 0; node < 6; node++) {
            g.crash(node);
        }
        Check.same("most: one is left", g.disagreements(), 0);
    }

    /** "pairs of two nodes that can reach each other, the lower one first": each pair once */
    private static void disagreementsOfPairs() {
        for (int node = 0; node < 8; node++) {
            GossipMembership g = Start.all(8);
            g.tell(node, (node + 1) % 8, Start.DEAD, 0);
            Check.same("pairs: of " + node + " with six others", g.disagreements(), 6);
            int other = (node + 2) % 8;
            g.cut(other, node, true);
            Check.same("pairs: one cut", g.disagreements(), 5);
            g.move(node, 1);
            Check.same("pairs: none in its partition", g.disagreements(), 0);
        }
    }

    /** What is counted is 0 at first, and calls other than rounds and tell leave it so. */
    private static void countsAtFirst() {
        GossipMembership g = Start.fresh();
        Check.same("counts: at first", g.declarations() + g.falseDeclarations() + g.refutations() + g.messages(), 0);
        for (int node = 0; node < 8; node++) {
            g.join(node, 0);
        }
        g.crash(7);
        g.join(7, 0);
        g.move(7, 1);
        g.cut(0, 1, true);
        Check.same("counts: after calls", g.declarations() + g.falseDeclarations() + g.refutations() + g.messages(), 0);
        g.tell(3, 3, Start.SUSPECT, 0);
        Check.same("counts: a refutation by a call", g.refutations(), 1);
        g.tell(3, 4, Start.DEAD, 0);
        Check.same("counts: news of a dead one is no declaration", g.declarations(), 0);
    }

    /** No round and no call yet: all rounds since the beginning are quiet. */
    private static void quietRoundsFromTheBeginning() {
        GossipMembership g = Start.fresh();
        Check.same("quiet: no round", g.quietRounds(), 0);
        g.rounds(50);
        Check.same("quiet: fifty", g.quietRounds(), 50);
        g.roundsUntilAgreement(100);
        Check.same("quiet: no round more", g.quietRounds(), 50);
        Check.raises("quiet: a refused call", IllegalStateException.class, () -> g.crash(0));
        Check.raises("quiet: another one", IllegalArgumentException.class, () -> g.join(0, 1));
        Check.same("quiet: those end nothing", g.quietRounds(), 50);
        g.join(0, 0);
        Check.same("quiet: a call that succeeds", g.quietRounds(), 0);
        g.rounds(50);
        Check.same("quiet: one that knows nobody", g.quietRounds(), 50);
    }

    /** "the calls that end quiet rounds do so even if nothing is different" */
    private static void quietRoundsSinceCalls() {
        quietAfter("move to where it is", 0, g -> g.move(0, 0));
        quietAfter("move of one that is down", 0, g -> g.move(7, 3));
        quietAfter("mend a whole link", 0, g -> g.cut(0, 1, false));
        quietAfter("tell what is known", 0, g -> g.tell(0, 1, Start.ALIVE, 0));
        quietAfter("tell of itself that it is alive", 0, g -> g.tell(1, 1, Start.ALIVE, 0));
        quietAfter("crash", 0, g -> g.crash(0));
        quietAfter("join", 0, g -> g.join(6, 6));
        quietAfter("a command", 0, g -> runs(g, "p00"));
        quietAfter("a command, and rounds", 2, g -> runs(g, "p00;r2"));
        quietAfter("rounds, and a command that throws", 9, g -> runs(g, "r2;c7"));
        quietAfter("a faulty text", 7, g -> runs(g, "p00;"));
        quietAfter("settings", 7, g -> g.setPatience(g.setFanOut(g.setHelpers(1)) - 1));
        quietAfter("the seed", 7, g -> g.setSeed(0));
        quietAfter("agreement that stands", 7, g -> g.roundsUntilAgreement(9));
        quietAfter("save", 7, GossipMembership::save);
        quietAfter("save and restore", 7, g -> {
            g.save();
            g.move(0, 0);
            g.restore();
        });
        quietAfter("a node that does not exist", 7, g -> Check.nameOf(() -> g.move(8, 0)));
        quietAfter("a partition that does not exist", 7, g -> Check.nameOf(() -> g.move(0, 4)));
        quietAfter("a link to itself", 7, g -> Check.nameOf(() -> g.cut(0, 0, true)));
        quietAfter("news that is out of range", 7, g -> Check.nameOf(() -> g.tell(0, 1, 1, 1001)));
        quietAfter("one up already", 7, g -> Check.nameOf(() -> g.join(0, 1)));
        quietAfter("one down already", 7, g -> Check.nameOf(() -> g.crash(7)));
    }

    private static void runs(GossipMembership g, String text) {
        Start.type(g, text);
        Check.nameOf(g::runText);
    }

    private static void quietAfter(String what, int due, Consumer<GossipMembership> call) {
        GossipMembership g = Start.two();
        g.rounds(7);
        Check.same("quiet: before " + what, g.quietRounds(), 7);
        call.accept(g);
        Check.same("quiet: after " + what, g.quietRounds(), due);
    }

    /** "since the latest round in which a view or an incarnation changed": each way in which one does */
    private static void quietRoundsSinceChanges() {
        GossipMembership g = Start.fresh();
        g.join(0, 0);
        g.setPatience(20);
        g.tell(0, 1, Start.SUSPECT, 0);
        g.rounds(19);
        Check.same("quiet: up to the deadline", g.quietRounds(), 19);
        g.rounds(1);
        Check.same("quiet: a declaration", g.quietRounds(), 0);
        g.rounds(4);
        Check.same("quiet: since the declaration", g.quietRounds(), 4);
        g.tell(0, 7, Start.ALIVE, 0);
        g.rounds(1);
        Check.same("quiet: a suspicion", g.quietRounds(), 0);
        g.rounds(1);
        Check.same("quiet: a suspect that is probed again", g.quietRounds(), 1);
        GossipMembership refuting = Start.calm();
        for (int dead = 0; dead < 3; dead++) {
            Start.tellWithCount(refuting, 6, dead, Start.DEAD, 9);
            refuting.tell(7, dead, Start.DEAD, 0);
        }
        Start.tellWithCount(refuting, 7, 6, Start.SUSPECT, 5, 1);
        refuting.setFanOut(1);
        refuting.rounds(1);
        Check.same("quiet: an incarnation alone", refuting.quietRounds() * 100 + refuting.incarnation(6), 6);
        GossipMembership told = Start.calm();
        told.tell(7, 0, Start.DEAD, 0);
        told.rounds(1);
        Check.same("quiet: a view by a message", told.quietRounds(), 0);
        told.rounds(3);
        Check.same("quiet: three rounds since", told.quietRounds(), 3);
    }

    /** "A round in which only counters or deadlines change is quiet" */
    private static void quietIfOnlyCountersChange() {
        GossipMembership g = Start.all(8);
        int before = g.counter(0, 0) + g.counter(0, 7) + g.counter(7, 0) + g.counter(7, 7);
        g.rounds(1);
        int after = g.counter(0, 0) + g.counter(0, 7) + g.counter(7, 0) + g.counter(7, 7);
        Check.same("quiet: counters fall", after < before, true);
        Check.same("quiet: a quiet round", g.quietRounds(), 1);
        g.rounds(50);
        Check.same("quiet: they all are", g.quietRounds(), 51);
    }

    /** "the sum of all counters of a node, divided by 8, both converted to double": from 0 to 9 by eighths */
    private static void averages() {
        GossipMembership g = Start.fresh();
        Check.same("average: none", g.averageCounter(0), 0.0);
        int sum = 0;
        for (int node = 0; node < 8; node += 7) {
            sum = 3;
            g.join(node, node);
            for (int about = 0; about < 8; about++) {
                if (about != node) {
                    g.setFanOut(1 + about);
                    sum += 1 + about;
                    g.tell(node, about, Start.DEAD, 0);
                    Check.same("average: sum " + sum, g.averageCounter(node), sum / 8.0);
                }
            }
            g.setFanOut(3);
        }
        g.setFanOut(9);
        g.tell(7, 7, Start.DEAD, 0);
        for (int about = 0; about < 7; about++) {
            g.tell(7, about, Start.DEAD, 1);
        }
        Check.same("average: the greatest", g.averageCounter(7), 9.0);
        Check.same("average: of the first still", g.averageCounter(0), 38.0 / 8.0);
    }

    /** "divided by the number of declarations, both converted to float": none, 0 of some, thirds, all */
    private static void shares() {
        for (int declared = 0; declared <= 7; declared++) {
            for (int falseOnes = 0; falseOnes <= declared; falseOnes++) {
                GossipMembership g = Start.fresh();
                g.setPatience(1);
                g.join(0, 0);
                for (int other = 1; other <= declared; other++) {
                    g.tell(0, other, Start.SUSPECT, 0);
                    if (other <= falseOnes) {
                        g.join(other, other);
                    }
                }
                g.rounds(1);
                Check.same("share: declared", g.declarations() * 10 + g.falseDeclarations(), declared * 10 + falseOnes);
                Check.same("share: " + falseOnes + " of " + declared, Reading.answer(g::falseShare),
                        declared == 0 ? "ArithmeticException" : String.valueOf((float) falseOnes / (float) declared));
            }
        }
    }
}

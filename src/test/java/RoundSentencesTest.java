import java.util.NoSuchElementException;

/** The sentences of the description on draws and rounds, and promises 11 to 13: each at its ends. */
final class RoundSentencesTest {
    private RoundSentencesTest() {
    }

    static void run() {
        seedsDrawn();
        thingsDrawn();
        eachNumberOfThings();
        nothingDrawnWithoutPartner();
        numbersOfRounds();
        roundsOneByOne();
        turnsInAscendingOrder();
        turnsOfNodesThatAreUp();
        deadlineNotGreaterThanTheRound();
        falseIfItCanBeReachedThen();
        partnersAreAliveOrSuspect();
        probeFailsForEachReason();
        helpersUntilEnoughOrNoneLeft();
        helpersDrawnOneAfterTheOther();
        helperIsReachedAndReaches();
        helpersAreAliveInTheView();
        helperPassesNoNews();
        probeOfASuspect();
        roundsUntilAgreement();
        mostRoundsUntilAgreement();
        fullNetwork();
        mostCalls();
    }

    /** Node 7 alone is up and holds the lowest nodes, which are down, for alive. */
    private static GossipMembership knowing(int count) {
        GossipMembership g = Start.fresh();
        g.setPatience(20);
        g.setHelpers(0);
        g.join(7, 7);
        for (int node = 0; node < count; node++) {
            g.tell(7, node, Start.ALIVE, 0);
        }
        return g;
    }

    /** "the seed becomes its product with 1103515245 plus 12345, modulo 2147483648", up to the greatest seeds */
    private static void seedsDrawn() {
        int[] seeds = {0, 1, 2, 12345, 1073741823, 1073741824, 2147483646, 2147483647, 2088216195, 230538014};
        int[] due = {12345, 1103527590, 59559187, 1406932606, 2117722572, 1073754169, 2087949151, 1043980748,
            0, 2147483647};
        for (int k = 0; k < seeds.length; k++) {
            GossipMembership g = knowing(1);
            g.setSeed(seeds[k]);
            Check.same("seed set " + seeds[k], g.seed(), seeds[k]);
            g.rounds(1);
            Check.same("seed after " + seeds[k], g.seed(), due[k]);
        }
    }

    /** "the number seed divided by 256, rounded down, modulo n": the seeds become 0, 255, 256 and so on. */
    private static void thingsDrawn() {
        int[] seeds = {2088216195, 1202266142, 912460675, 26510622, 1884188803, 590183966, 300378499,
            230538014, 1116488067, 1406293534};
        int[] become = {0, 255, 256, 511, 512, 1791, 1792, 2147483647, 2147483392, 2147483391};
        int[] due = {0, 0, 1, 1, 2, 6, 0, 3, 3, 2};
        for (int k = 0; k < seeds.length; k++) {
            GossipMembership g = knowing(7);
            g.setSeed(seeds[k]);
            g.rounds(1);
            Check.same("drawn: the seed", g.seed(), become[k]);
            Check.same("drawn: by " + become[k], g.alive(7), 0b1111111 & ~(1 << due[k]));
        }
    }

    /** "To draw one of n things, n at least 1": one of one to seven, "in ascending order" */
    private static void eachNumberOfThings() {
        for (int count = 1; count <= 7; count++) {
            for (int drawn = 0; drawn < count; drawn++) {
                GossipMembership g = knowing(count);
                int seed = Draws.seedFor(count, drawn);
                g.setSeed(seed);
                g.rounds(1);
                Check.same("drawn: " + drawn + " of " + count, g.view(7, drawn), 2);
                Check.same("drawn: once of " + count, g.seed(), Draws.next(seed));
                Check.same("drawn: the others of " + count, Integer.bitCount(g.alive(7)), count - 1);
            }
        }
    }

    /** "A turn that ends without a partner draws nothing": all unknown, all dead, all down. */
    private static void nothingDrawnWithoutPartner() {
        GossipMembership unknown = Start.fresh();
        for (int node = 0; node < 8; node++) {
            unknown.join(node, node);
        }
        unknown.rounds(1);
        Check.same("no partner: unknown", unknown.seed(), 1);
        Check.same("no partner: no message", unknown.messages(), 0);
        GossipMembership dead = knowing(7);
        for (int node = 0; node < 7; node++) {
            dead.tell(7, node, Start.DEAD, 0);
        }
        dead.rounds(50);
        Check.same("no partner: dead", dead.seed(), 1);
        GossipMembership down = knowing(7);
        down.crash(7);
        down.rounds(50);
        Check.same("no partner: down", down.seed(), 1);
        Check.same("no partner: views of one that is down", down.alive(7), 0b1111111);
        GossipMembership last = knowing(0);
        last.setPatience(1);
        last.tell(7, 3, Start.SUSPECT, 0);
        last.rounds(1);
        Check.same("no partner: the last one declared dead first", last.seed(), 1);
    }

    /** "how many, 1 to 50": the number of the round increases by 1 in each. */
    private static void numbersOfRounds() {
        GossipMembership g = Start.full();
        int before = g.round();
        Check.same("rounds: the least", g.rounds(1), before + 1);
        Check.same("rounds: the greatest", g.rounds(50), before + 51);
        Check.raises("rounds: not 0", IllegalArgumentException.class, () -> g.rounds(0));
        Check.raises("rounds: not 51", IllegalArgumentException.class, () -> g.rounds(51));
        Check.same("rounds: none for those", g.round(), before + 51);
        GossipMembership until = Start.fresh();
        until.join(0, 0);
        until.join(1, 1);
        Check.raises("rounds: until agreement", NoSuchElementException.class, () -> until.roundsUntilAgreement(3));
        Check.same("rounds: those are counted too", until.round(), 3);
    }

    /** Many rounds in one call are like as many calls. */
    private static void roundsOneByOne() {
        GossipMembership once = Start.mixed();
        GossipMembership each = Start.mixed();
        once.rounds(50);
        for (int round = 0; round < 50; round++) {
            each.rounds(1);
        }
        Check.same("rounds: one by one", Reading.all(each), Reading.all(once));
    }

    /** "each node that is up makes its turn, in ascending order": news goes up a row in one round, not down. */
    private static void turnsInAscendingOrder() {
        GossipMembership up = Start.fresh();
        GossipMembership down = Start.fresh();
        for (int node = 0; node < 3; node++) {
            up.join(node, node);
            down.join(node, node);
        }
        up.tell(0, 1, Start.ALIVE, 0);
        up.tell(0, 7, Start.DEAD, 0);
        up.tell(1, 2, Start.ALIVE, 0);
        up.setSeed(Draws.seedFor(1, 0, 2, 1));
        up.rounds(1);
        Check.same("ascending: the next knows", up.view(1, 7), 3);
        Check.same("ascending: the last knows", up.view(2, 7), 3);
        down.tell(2, 1, Start.ALIVE, 0);
        down.tell(2, 7, Start.DEAD, 0);
        down.tell(1, 0, Start.ALIVE, 0);
        down.rounds(1);
        Check.same("ascending: down to the next", down.view(1, 7), 3);
        Check.same("ascending: but not to the first", down.view(0, 7), 0);
    }

    /** Nodes that are down neither declare nor draw nor send, and all those that are up do. */
    private static void turnsOfNodesThatAreUp() {
        for (int missing = 0; missing < 8; missing++) {
            GossipMembership g = Start.full();
            int seed = g.seed();
            g.setHelpers(0);
            g.crash(missing);
            g.rounds(1);
            Check.same("turns: seven draws without " + missing, g.seed(), Draws.after(seed, 7));
            Check.same("turns: views of the node that is down", g.alive(missing), 255 & ~(1 << missing));
        }
    }

    /** "suspect with a deadline that is not greater than the round becomes dead with the same incarnation" */
    private static void deadlineNotGreaterThanTheRound() {
        for (int patience = 1; patience <= 20; patience++) {
            GossipMembership g = Start.fresh();
            g.join(3, 3);
            g.rounds(2);
            g.setPatience(patience);
            g.tell(3, 0, Start.SUSPECT, 1000);
            g.tell(3, 7, Start.SUSPECT, 0);
            if (patience > 1) {
                g.rounds(patience - 1);
            }
            Check.same("deadline: not before, patience " + patience, g.view(3, 0) * 10 + g.view(3, 7), 22);
            Check.same("deadline: no declaration, patience " + patience, g.declarations(), 0);
            g.rounds(1);
            Check.same("deadline: then, patience " + patience, g.view(3, 0) * 10 + g.view(3, 7), 33);
            Check.same("deadline: two declarations, patience " + patience, g.declarations(), 2);
            Check.same("deadline: the same incarnation", g.viewIncarnation(3, 0) + g.viewIncarnation(3, 7), 1000);
            Check.same("deadline: counters", g.counter(3, 0) + g.counter(3, 7), 6);
            g.rounds(5);
            Check.same("deadline: once", g.declarations(), 2);
        }
    }

    /** "a false one if the node can reach the other one": "by what can be reached at that moment" */
    private static void falseIfItCanBeReachedThen() {
        for (int reason = 0; reason < 5; reason++) {
            GossipMembership g = Start.two();
            g.setPatience(1);
            if (reason == 4) {
                g.cut(0, 1, true);
            }
            g.tell(0, 1, Start.SUSPECT, 0);
            if (reason == 1) {
                g.crash(1);
            } else if (reason == 2) {
                g.move(1, 3);
            } else if (reason == 3) {
                g.cut(1, 0, true);
            } else if (reason == 4) {
                g.cut(0, 1, false);
            }
            g.rounds(1);
            boolean isFalse = reason == 0 || reason == 4;
            Check.same("false: declared, reason " + reason, g.declarations(), 1);
            Check.same("false: reason " + reason, g.falseDeclarations(), isFalse ? 1 : 0);
            Check.same("false: share, reason " + reason, g.falseShare(), isFalse ? 1.0f : 0.0f);
            g.tell(0, 6, Start.DEAD, 0);
            Check.same("false: news of a dead one is no declaration", g.declarations(), 1);
        }
    }

    /** "the nodes that are alive or suspect in its view", the first and the last of them too */
    private static void partnersAreAliveOrSuspect() {
        for (int state = 0; state <= 3; state++) {
            for (int node = 0; node < 7; node += 6) {
                GossipMembership g = knowing(0);
                g.tell(7, 3, Start.DEAD, 0);
                if (state != 0) {
                    g.tell(7, node, state, 0);
                }
                g.join(node, node);
                g.rounds(1);
                boolean probed = state == Start.ALIVE || state == Start.SUSPECT;
                Check.same("partners: " + node + " held " + state, g.messages(), probed ? 2 : 0);
                Check.same("partners: draws of " + node, g.seed(), probed ? Draws.next(1) : 1);
            }
        }
    }

    /** "if it can reach it .. Otherwise": a partner that is down, elsewhere, or behind a cut link is suspected. */
    private static void probeFailsForEachReason() {
        for (int reason = 0; reason < 4; reason++) {
            GossipMembership g = Start.calm();
            if (reason == 1) {
                g.crash(6);
            } else if (reason == 2) {
                g.move(6, 1);
            } else if (reason == 3) {
                g.cut(6, 7, true);
            }
            int messages = g.messages();
            g.rounds(1);
            Check.same("probe: reason " + reason, g.view(7, 6), reason == 0 ? 1 : 2);
            Check.same("probe: messages, reason " + reason, g.messages() - messages, reason == 0 ? 2 : 0);
            Check.same("probe: deadline, reason " + reason, Reading.answer(() -> g.deadline(7, 6)),
                    reason == 0 ? "NoSuchElementException" : "5");
            Check.same("probe: no refutation, reason " + reason, g.refutations(), 0);
        }
    }

    /** "until there are as many as the number of helpers or none is left": none to four could be drawn. */
    private static void helpersUntilEnoughOrNoneLeft() {
        for (int wanted = 0; wanted <= 3; wanted++) {
            for (int others = 0; others <= 6; others++) {
                GossipMembership g = knowing(1 + others);
                g.setHelpers(wanted);
                g.rounds(1);
                Check.same("helpers: " + wanted + " of " + others, g.seed(),
                        Draws.after(1, 1 + Math.min(wanted, others)));
            }
        }
    }

    /**
     * Node 0 probes node 1, which it does not reach, and node 2, 3 or 4 alone could help: it does if
     * it is drawn first of three, or second of the two that are left then.
     */
    private static void helpersDrawnOneAfterTheOther() {
        for (int first = 0; first < 3; first++) {
            for (int second = 0; second < 2; second++) {
                for (int able = 0; able < 3; able++) {
                    GossipMembership g = unanswered();
                    g.setHelpers(2);
                    for (int helper = 0; helper < 3; helper++) {
                        if (helper != able) {
                            g.crash(2 + helper);
                        }
                    }
                    g.setSeed(Draws.seedFor(4, 0, 3, first, 2, second));
                    g.rounds(1);
                    int drawnSecond = second < first ? second : second + 1;
                    boolean helped = able == first || able == drawnSecond;
                    Check.same("helpers: " + first + ", " + second + ", able " + able, g.view(0, 1), helped ? 1 : 2);
                }
            }
        }
    }

    /** Node 0 alone takes a turn, holds nodes 1 to 4 alive and does not reach node 1. */
    private static GossipMembership unanswered() {
        GossipMembership g = Start.fresh();
        for (int node = 0; node < 5; node++) {
            g.join(node, node);
        }
        for (int other = 1; other < 5; other++) {
            g.tell(0, other, Start.ALIVE, 0);
        }
        g.cut(1, 0, true);
        return g;
    }

    /** "at least one of the helpers can be reached by the node and can reach the partner" */
    private static void helperIsReachedAndReaches() {
        for (int lack = 0; lack < 8; lack++) {
            GossipMembership g = unanswered();
            g.setHelpers(1);
            if (lack == 1) {
                g.crash(2);
            } else if (lack == 2) {
                g.move(2, 3);
            } else if (lack == 3) {
                g.cut(2, 0, true);
            } else if (lack == 4) {
                g.cut(1, 2, true);
            } else if (lack == 5) {
                g.crash(1);
            } else if (lack == 6) {
                g.move(1, 3);
            } else if (lack == 7) {
                g.move(1, 3);
                g.move(2, 3);
            }
            g.setSeed(Draws.seedFor(4, 0, 3, 0));
            g.rounds(1);
            Check.same("helper: lack " + lack, g.view(0, 1), lack == 0 ? 1 : 2);
        }
        GossipMembership two = unanswered();
        two.setHelpers(3);
        two.cut(0, 2, true);
        two.cut(1, 3, true);
        two.cut(1, 4, true);
        two.setSeed(Draws.seedFor(4, 0));
        two.rounds(1);
        Check.same("helper: one is reached, another one reaches", two.view(0, 1), 2);
        GossipMembership last = unanswered();
        last.setHelpers(3);
        last.crash(2);
        last.crash(3);
        last.setSeed(Draws.seedFor(4, 0, 3, 0, 2, 0, 1, 0));
        last.rounds(1);
        Check.same("helper: the last of three", last.view(0, 1), 1);
    }

    /** Helpers are "alive in its view": not unknown, suspect or dead; but they can be down. */
    private static void helpersAreAliveInTheView() {
        for (int state = 0; state <= 3; state++) {
            GossipMembership g = Start.fresh();
            g.setHelpers(3);
            g.join(0, 0);
            g.join(2, 2);
            g.join(1, 1);
            g.cut(0, 1, true);
            g.tell(0, 1, Start.ALIVE, 0);
            if (state != 0) {
                g.tell(0, 2, state, 0);
            }
            int partners = state == Start.ALIVE || state == Start.SUSPECT ? 2 : 1;
            int seed = Draws.seedFor(partners, 0);
            g.setSeed(seed);
            g.rounds(1);
            boolean helps = state == Start.ALIVE;
            Check.same("helper held " + state + ": the partner", g.view(0, 1), helps ? 1 : 2);
            Check.same("helper held " + state + ": draws", g.seed(), Draws.after(seed, helps ? 2 : 1));
        }
        GossipMembership down = knowing(2);
        down.setHelpers(1);
        down.rounds(1);
        Check.same("helper that is down: is drawn", down.seed(), Draws.after(1, 2));
        Check.same("helper that is down: does not help", Integer.bitCount(down.alive(7)), 1);
    }

    /** "a helper that reaches the partner passes no news", and no message is counted for it. */
    private static void helperPassesNoNews() {
        GossipMembership g = unanswered();
        g.setHelpers(3);
        g.tell(0, 7, Start.DEAD, 5);
        g.setSeed(Draws.seedFor(4, 0));
        g.rounds(1);
        Check.same("helper: the partner stays alive", g.view(0, 1), 1);
        Check.same("helper: no message", g.messages(), 0);
        for (int node = 1; node < 5; node++) {
            Check.same("helper: no news for " + node, g.view(node, 7) + g.alive(node), 0);
            Check.same("helper: counter for " + node, g.counter(0, node), 3);
        }
        Check.same("helper: the round is quiet", g.quietRounds(), 1);
    }

    /** "if the partner is alive in its view, it becomes suspect": one that is suspect stays as it is. */
    private static void probeOfASuspect() {
        GossipMembership g = unanswered();
        g.setPatience(20);
        g.tell(0, 1, Start.SUSPECT, 0);
        g.setPatience(2);
        g.setFanOut(9);
        g.setHelpers(3);
        for (int node = 2; node < 5; node++) {
            g.crash(node);
        }
        int seed = Draws.seedFor(4, 0);
        g.setSeed(seed);
        g.rounds(1);
        Check.same("suspect: stays", g.view(0, 1), 2);
        Check.same("suspect: its deadline", g.deadline(0, 1), 20);
        Check.same("suspect: its counter", g.counter(0, 1), 3);
        Check.same("suspect: helpers are drawn all the same", g.seed(), Draws.after(seed, 4));
        Check.same("suspect: a quiet round", g.quietRounds(), 1);
        GossipMembership reached = Start.calm();
        reached.tell(7, 6, Start.SUSPECT, 1);
        reached.rounds(1);
        Check.same("suspect: reached, it refutes", reached.incarnation(6), 2);
        Check.same("suspect: and is alive", reached.view(7, 6), 1);
    }

    /** Links between opposite nodes are cut, so that false suspicions go round for long. */
    private static GossipMembership unsteady(int seed) {
        GossipMembership g = Start.fresh();
        g.setPatience(5);
        g.setFanOut(9);
        g.setHelpers(0);
        g.setSeed(seed);
        for (int node = 0; node < 8; node++) {
            g.join(node, 0);
        }
        for (int node = 0; node < 4; node++) {
            g.cut(node, node + 4, true);
        }
        return g;
    }

    /** "Carries out rounds as long as the nodes do not agree, but not more than a number" */
    private static void roundsUntilAgreement() {
        Check.same("until: empty", Start.fresh().roundsUntilAgreement(1), 0);
        GossipMembership full = Start.full();
        int round = full.round();
        Check.same("until: full, agreed", full.roundsUntilAgreement(1), 0);
        Check.same("until: no round is needed", full.round(), round);
        GossipMembership apart = Start.fresh();
        for (int node = 0; node < 4; node++) {
            apart.move(node, node);
            apart.join(node, node);
        }
        Check.same("until: no two reach each other", apart.roundsUntilAgreement(100), 0);
        int needed = unsteady(12).roundsUntilAgreement(100);
        Check.same("until: some are needed", needed > 2, true);
        for (int most = 1; most <= needed + 1; most++) {
            GossipMembership g = unsteady(12);
            int atMost = most;
            Check.same("until: most " + most, Reading.answer(() -> g.roundsUntilAgreement(atMost)),
                    most < needed ? "NoSuchElementException" : "" + needed);
            Check.same("until: carried out with most " + most, g.round(), Math.min(most, needed));
            Check.same("until: agreed with most " + most, g.agree(), most >= needed);
        }
    }

    /** "the greatest number of rounds, 1 to 100": these seeds need 99, 100 and 101 rounds. */
    private static void mostRoundsUntilAgreement() {
        Check.same("most: 99 are needed", unsteady(2494485).roundsUntilAgreement(100), 99);
        Check.same("most: 100 are needed", unsteady(3333899).roundsUntilAgreement(100), 100);
        GossipMembership g = unsteady(4204989);
        Check.raises("most: 101 are needed", NoSuchElementException.class, () -> g.roundsUntilAgreement(100));
        Check.same("most: a hundred stay carried out", g.round(), 100);
        Check.raises("most: not 101", IllegalArgumentException.class, () -> g.roundsUntilAgreement(101));
        Check.raises("most: not 0", IllegalArgumentException.class, () -> g.roundsUntilAgreement(0));
        Check.same("most: none for those", g.round(), 100);
        Check.same("most: one more", g.roundsUntilAgreement(1), 1);
        Check.same("most: none more", g.roundsUntilAgreement(1), 0);
        GossipMembership less = unsteady(3333899);
        Check.raises("most: one too few", NoSuchElementException.class, () -> less.roundsUntilAgreement(99));
        GossipMembership straight = unsteady(3333899);
        straight.rounds(50);
        straight.rounds(49);
        Check.same("most: they are rounds like others", Reading.all(less), Reading.all(straight));
    }

    /** A full network that agrees: eight probes a round, each of which is reached. */
    private static void fullNetwork() {
        GossipMembership g = Start.full();
        int messages = g.messages();
        int seed = g.seed();
        g.rounds(1);
        Check.same("full: sixteen messages", g.messages() - messages, 16);
        Check.same("full: eight draws", g.seed(), Draws.after(seed, 8));
        g.rounds(50);
        Check.same("full: no suspicions", g.declarations() + g.refutations(), 0);
        Check.same("full: all agree", g.agree(), true);
        for (int node = 0; node < 8; node++) {
            Check.same("full: alive for " + node, g.alive(node), 255 & ~(1 << node));
            Check.same("full: all is passed on", g.averageCounter(node), 0.0);
        }
    }

    /** "at most 512 calls": what is counted has room for the rounds of all of them. */
    private static void mostCalls() {
        GossipMembership g = Start.all(8);
        for (int call = 0; call < 440; call++) {
            g.rounds(50);
        }
        Check.same("most calls: the round", g.round(), 22000);
        Check.same("most calls: the messages", g.messages(), 352000);
        Check.same("most calls: quiet rounds", g.quietRounds(), 22000);
        GossipMembership apart = Start.fresh();
        apart.join(0, 0);
        apart.join(7, 7);
        for (int call = 0; call < 500; call++) {
            Check.nameOf(() -> apart.roundsUntilAgreement(100));
        }
        apart.tell(7, 0, Start.SUSPECT, 0);
        Check.same("most calls: rounds until agreement", apart.round(), 50000);
        Check.same("most calls: a deadline then", apart.deadline(7, 0), 50003);
    }
}

/** Promises 11 and 12: what happens in rounds, and rounds until the nodes agree. */
final class RoundsTest {
    private RoundsTest() {
    }

    static void run() {
        count();
        drawsPartner();
        probesPartner();
        choosesNews();
        putsNewsOfReceiverAhead();
        answersAfterTakingIn();
        asksHelpers();
        drawsHelpers();
        suspects();
        declares();
        refutes();
        untilAgreement();
    }

    private static void count() {
        GossipMembership g = Start.fresh();
        Check.same("P11 one", g.rounds(1), 1);
        Check.same("P11 fifty", g.rounds(50), 51);
        Check.same("P11 no draws without partners", g.seed(), 1);
        g.join(0, 0);
        g.rounds(3);
        Check.same("P11 no draws of a node that knows nobody", g.seed(), 1);
        for (int bad : new int[] {0, 51, -1, Integer.MIN_VALUE, Integer.MAX_VALUE}) {
            Check.refuses("P11 " + bad, Start::mixed, IllegalArgumentException.class, x -> x.rounds(bad));
        }
    }

    /** The partner that is drawn is seen by the suspicion of it, as all that are probed are down. */
    private static void drawsPartner() {
        int[] partners = {1, 3, 4, 6};
        for (int drawn = 0; drawn < 4; drawn++) {
            GossipMembership g = Start.fresh();
            g.setPatience(20);
            g.setHelpers(0);
            g.join(0, 0);
            for (int other : new int[] {1, 3, 4, 5, 6}) {
                g.tell(0, other, other == 5 ? Start.DEAD : Start.ALIVE, 0);
            }
            g.setSeed(Draws.seedFor(4, drawn));
            g.rounds(1);
            for (int other : partners) {
                Check.same("P11 drawn " + drawn + " of " + other, g.view(0, other), other == partners[drawn] ? 2 : 1);
            }
            // Suspects are drawn too, so that there are four still.
            int seed = Draws.seedFor(4, 3 - drawn);
            g.setSeed(seed);
            g.rounds(1);
            Check.same("P11 drawn then", g.view(0, partners[3 - drawn]), 2);
            Check.same("P11 one draw", g.seed(), Draws.next(seed));
        }
    }

    private static void probesPartner() {
        GossipMembership g = Start.two();
        g.rounds(1);
        Check.same("P11 two messages a probe", g.messages(), 4);
        Check.same("P11 one draw a turn", g.seed(), Draws.after(1, 2));
        for (int node = 0; node < 2; node++) {
            Check.same("P11 own counter falls", g.counter(node, node), 1);
            Check.same("P11 counter falls", g.counter(node, 1 - node), 1);
        }
        g.rounds(1);
        Check.same("P11 counters stay 0", g.averageCounter(0) + g.averageCounter(1), 0.0);
        g.rounds(1);
        Check.same("P11 messages without news are counted", g.messages(), 12);
    }

    private static void choosesNews() {
        GossipMembership g = Start.prober();
        Start.tellWithCount(g, 7, 0, Start.ALIVE, 1);
        Start.tellWithCount(g, 7, 1, Start.ALIVE, 5);
        Start.tellWithCount(g, 7, 2, Start.ALIVE, 5);
        Start.tellWithCount(g, 7, 3, Start.ALIVE, 7);
        Start.tellWithCount(g, 7, 6, Start.ALIVE, 2);
        g.setFanOut(4);
        g.setSeed(Draws.seedFor(5, 4));
        g.rounds(1);
        Check.same("P11 greatest counters first", g.alive(6), 0b1110);
        Check.same("P11 own news waits", g.view(6, 7), 0);
        Check.same("P11 counter 7", g.counter(7, 3), 6);
        Check.same("P11 counter 5", g.counter(7, 1), 4);
        Check.same("P11 the other counter 5", g.counter(7, 2), 4);
        Check.same("P11 own counter", g.counter(7, 7), 3);
        Check.same("P11 counter 2", g.counter(7, 6), 2);
        Check.same("P11 counter 1", g.counter(7, 0), 1);
        Check.same("P11 counters of the receiver, sent on", g.counter(6, 1) + g.counter(6, 2) + g.counter(6, 3), 9);
        Check.same("P11 its own, not among the three", g.counter(6, 6), 3);
        GossipMembership equal = Start.prober();
        for (int other : new int[] {6, 2, 1, 0}) {
            equal.tell(7, other, Start.ALIVE, 0);
        }
        equal.setSeed(Draws.seedFor(4, 3));
        equal.rounds(1);
        Check.same("P11 lower numbers first", equal.alive(6), 0b111);
        Check.same("P11 the later ones wait", equal.counter(7, 6) + equal.counter(7, 7), 6);
    }

    /** Gives node 6 three dead ones to tell of, so that its answer leaves the views of node 7 of it alone. */
    private static GossipMembership busyReceiver() {
        GossipMembership g = Start.prober();
        for (int dead = 3; dead < 6; dead++) {
            Start.tellWithCount(g, 6, dead, Start.DEAD, 9);
        }
        return g;
    }

    private static void putsNewsOfReceiverAhead() {
        GossipMembership apart = busyReceiver();
        Start.tellWithCount(apart, 7, 6, Start.SUSPECT, 1);
        for (int dead = 0; dead < 3; dead++) {
            Start.tellWithCount(apart, 7, dead, Start.DEAD, 5);
        }
        apart.setFanOut(2);
        apart.rounds(1);
        Check.same("P11 the receiver refutes", apart.incarnation(6), 1);
        Check.same("P11 beside three others", apart.view(6, 0) + apart.view(6, 1) + apart.view(6, 2), 9);
        Check.same("P11 without counting", apart.counter(7, 6), 1);
        Check.same("P11 the others count", apart.counter(7, 0) + apart.counter(7, 1) + apart.counter(7, 2), 12);
        GossipMembership among = busyReceiver();
        Start.tellWithCount(among, 7, 6, Start.SUSPECT, 9);
        for (int dead = 0; dead < 3; dead++) {
            Start.tellWithCount(among, 7, dead, Start.DEAD, 5);
        }
        among.setFanOut(2);
        among.rounds(1);
        Check.same("P11 among the three", among.incarnation(6), 1);
        Check.same("P11 sent once", among.refutations(), 1);
        Check.same("P11 its counter falls", among.counter(7, 6), 8);
        Check.same("P11 its place is used", among.view(6, 2), 0);
        Check.same("P11 the two others are sent", among.view(6, 0) + among.view(6, 1), 6);
        GossipMembership sender = Start.prober();
        sender.tell(7, 6, Start.ALIVE, 0);
        sender.tell(6, 7, Start.DEAD, 0);
        sender.rounds(1);
        Check.same("P11 a dead one is told of itself in the answer", sender.incarnation(7), 1);
        Check.same("P11 its own news came before", sender.view(6, 7), 3);
        GossipMembership ahead = busyReceiver();
        ahead.tell(7, 6, Start.ALIVE, 0);
        Start.tellWithCount(ahead, 6, 7, Start.DEAD, 1);
        ahead.rounds(1);
        Check.same("P11 ahead of all else too", ahead.incarnation(7), 1);
        Check.same("P11 without counting too", ahead.counter(6, 7), 1);
        GossipMembership alive = Start.prober();
        Start.tellWithCount(alive, 7, 6, Start.ALIVE, 1);
        for (int dead = 0; dead < 3; dead++) {
            Start.tellWithCount(alive, 7, dead, Start.DEAD, 5);
        }
        alive.rounds(1);
        Check.same("P11 nothing ahead of an alive one", alive.counter(7, 6), 1);
        Check.same("P11 nothing to refute", alive.refutations(), 0);
    }

    private static void answersAfterTakingIn() {
        GossipMembership g = Start.prober();
        g.setFanOut(5);
        g.tell(7, 6, Start.SUSPECT, 4);
        g.rounds(1);
        Check.same("P11 refuted", g.incarnation(6), 5);
        Check.same("P11 the answer tells it", g.view(7, 6), 1);
        Check.same("P11 with the new incarnation", g.viewIncarnation(7, 6), 5);
        Check.same("P11 counted", g.counter(6, 6), 4);
        Check.same("P11 passed on", g.counter(7, 6), 5);
        GossipMembership late = Start.prober();
        late.tell(7, 6, Start.ALIVE, 0);
        late.tell(7, 3, Start.SUSPECT, 2);
        late.setSeed(Draws.seedFor(2, 1));
        late.rounds(1);
        Check.same("P11 a suspect told of", late.view(6, 3), 2);
        Check.same("P11 its deadline is counted from when it is told", late.deadline(6, 3), 4);
        Check.same("P11 with its incarnation", late.viewIncarnation(6, 3), 2);
    }

    /** Node 0 probes node 1, which it does not reach; only it knows anybody, so only it takes turns. */
    private static GossipMembership unanswered(int helpers) {
        GossipMembership g = Start.fresh();
        for (int node = 0; node < 4; node++) {
            g.join(node, node);
        }
        for (int other = 1; other < 4; other++) {
            g.tell(0, other, Start.ALIVE, 0);
        }
        g.setHelpers(helpers);
        g.cut(0, 1, true);
        return g;
    }

    private static void asksHelpers() {
        GossipMembership helped = unanswered(1);
        helped.setSeed(Draws.seedFor(3, 0, 2, 0));
        helped.rounds(1);
        Check.same("P11 a helper reaches the partner", helped.view(0, 1), 1);
        Check.same("P11 it passes no news", helped.alive(2) + helped.alive(1), 0);
        Check.same("P11 no message is counted", helped.messages(), 0);
        Check.same("P11 no counter falls", helped.averageCounter(0), 12.0 / 8.0);
        GossipMembership alone = unanswered(0);
        alone.setSeed(Draws.seedFor(3, 0));
        alone.rounds(1);
        Check.same("P11 no helpers wanted", alone.view(0, 1), 2);
        for (int drawn = 0; drawn < 2; drawn++) {
            GossipMembership one = unanswered(1);
            one.cut(1, 3, true);
            one.setSeed(Draws.seedFor(3, 0, 2, drawn));
            one.rounds(1);
            Check.same("P11 only one of them reaches the partner", one.view(0, 1), drawn + 1);
            GossipMembership far = unanswered(1);
            far.cut(0, 3, true);
            far.setSeed(Draws.seedFor(3, 0, 2, drawn));
            far.rounds(1);
            Check.same("P11 only one of them is reached", far.view(0, 1), drawn + 1);
            GossipMembership down = unanswered(1);
            down.crash(3);
            down.setSeed(Draws.seedFor(3, 0, 2, drawn));
            down.rounds(1);
            Check.same("P11 one of them is down", down.view(0, 1), drawn + 1);
            GossipMembership both = unanswered(2);
            both.crash(3);
            both.setSeed(Draws.seedFor(3, 0, 2, drawn));
            both.rounds(1);
            Check.same("P11 one of both is enough", both.view(0, 1), 1);
        }
        GossipMembership apart = unanswered(2);
        apart.cut(0, 2, true);
        apart.cut(3, 1, true);
        apart.setSeed(Draws.seedFor(3, 0));
        apart.rounds(1);
        Check.same("P11 the same helper must do both", apart.view(0, 1), 2);
        GossipMembership dead = unanswered(3);
        dead.crash(1);
        dead.setSeed(Draws.seedFor(3, 0));
        dead.rounds(1);
        Check.same("P11 nobody reaches one that is down", dead.view(0, 1), 2);
    }

    private static void drawsHelpers() {
        GossipMembership all = unanswered(2);
        int seed = Draws.seedFor(3, 0, 2, 0);
        all.setSeed(seed);
        all.rounds(1);
        Check.same("P11 all helpers are drawn, also if the first will do", all.seed(), Draws.after(seed, 3));
        GossipMembership few = unanswered(3);
        few.setSeed(seed);
        few.rounds(1);
        Check.same("P11 none is drawn if none is left", few.seed(), Draws.after(seed, 3));
        GossipMembership suspect = unanswered(3);
        suspect.tell(0, 2, Start.SUSPECT, 0);
        suspect.tell(0, 5, Start.DEAD, 0);
        int other = Draws.seedFor(3, 0);
        suspect.setSeed(other);
        suspect.rounds(1);
        Check.same("P11 only alive ones help", suspect.seed(), Draws.after(other, 2));
        GossipMembership ends = Start.fresh();
        for (int node : new int[] {0, 3, 7}) {
            ends.join(node, node);
        }
        ends.cut(3, 4, true);
        ends.tell(3, 4, Start.ALIVE, 0);
        ends.tell(3, 0, Start.ALIVE, 0);
        ends.tell(3, 7, Start.ALIVE, 0);
        int both = Draws.seedFor(3, 1, 2, 1);
        ends.setSeed(both);
        ends.setHelpers(3);
        ends.rounds(1);
        Check.same("P11 the first node and the last are drawn", ends.seed(), Draws.after(both, 3));
        Check.same("P11 but do not reach the partner", ends.alive(3), 0b10000001);
        GossipMembership second = unanswered(2);
        second.join(4, 4);
        second.tell(0, 4, Start.ALIVE, 0);
        second.crash(2);
        second.crash(4);
        // The first helper is node 2; of nodes 3 and 4, which are left, node 3 is the first.
        second.setSeed(Draws.seedFor(4, 0, 3, 0, 2, 0));
        second.rounds(1);
        Check.same("P11 the second is drawn from the others", second.view(0, 1), 1);
        second.setSeed(Draws.seedFor(4, 0, 3, 0, 2, 1));
        second.rounds(1);
        Check.same("P11 in ascending order", second.view(0, 1), 2);
    }

    private static void suspects() {
        GossipMembership g = Start.two();
        g.setPatience(3);
        g.tell(0, 1, Start.ALIVE, 6);
        g.crash(1);
        g.rounds(2);
        Check.same("P11 suspect", g.view(0, 1), 2);
        Check.same("P11 with the same incarnation", g.viewIncarnation(0, 1), 6);
        Check.same("P11 the deadline from the first suspicion", g.deadline(0, 1), 4);
        Check.same("P11 counter", g.counter(0, 1), 3);
        Check.same("P11 a draw each round", g.seed(), Draws.after(1, 2));
        g.setPatience(20);
        g.rounds(1);
        Check.same("P11 it stays", g.deadline(0, 1), 4);
        g.rounds(1);
        Check.same("P11 dead at the deadline", g.view(0, 1), 3);
        Check.same("P11 no draw then", g.seed(), Draws.after(1, 3));
        Check.same("P11 declared with the same incarnation", g.viewIncarnation(0, 1), 6);
        Check.same("P11 no message", g.messages(), 0);
    }

    private static void declares() {
        GossipMembership g = Start.fresh();
        g.join(0, 0);
        g.setPatience(1);
        g.tell(0, 3, Start.SUSPECT, 2);
        g.setPatience(2);
        g.tell(0, 5, Start.SUSPECT, 2);
        g.setFanOut(8);
        g.rounds(1);
        Check.same("P11 declared dead", g.view(0, 3), 3);
        Check.same("P11 declarations", g.declarations(), 1);
        Check.same("P11 counter of the declared", g.counter(0, 3), 8);
        Check.same("P11 not before its deadline", g.view(0, 5), 2);
        g.crash(0);
        g.rounds(5);
        Check.same("P11 not by one that is down", g.view(0, 5), 2);
        GossipMembership ends = Start.fresh();
        ends.join(3, 3);
        ends.setPatience(1);
        ends.tell(3, 0, Start.SUSPECT, 0);
        ends.tell(3, 7, Start.SUSPECT, 0);
        ends.rounds(1);
        Check.same("P11 the first node and the last", ends.view(3, 0) + ends.view(3, 7), 6);
        Check.same("P11 before a partner is drawn", ends.seed(), 1);
    }

    /** A node is declared dead falsely, hears of it in an answer, and is alive again for the other one. */
    private static void refutes() {
        GossipMembership g = Start.two();
        g.setPatience(1);
        g.tell(0, 1, Start.SUSPECT, 0);
        g.rounds(1);
        Check.same("P11 declared though it is up", g.falseDeclarations(), 1);
        Check.same("P11 it hears of that and refutes", g.incarnation(1), 1);
        Check.same("P11 one refutation", g.refutations(), 1);
        Check.same("P11 dead still", g.view(0, 1), 3);
        Check.same("P11 the probe of the dead one", g.messages(), 2);
        g.rounds(1);
        Check.same("P11 alive again", g.view(0, 1), 1);
        Check.same("P11 with the greater incarnation", g.viewIncarnation(0, 1), 1);
    }

    private static void untilAgreement() {
        Check.same("P12 all down", Start.fresh().roundsUntilAgreement(1), 0);
        GossipMembership g = Start.two();
        Check.same("P12 agreed already", g.roundsUntilAgreement(100), 0);
        Check.same("P12 no round", g.round(), 0);
        g.tell(0, 5, Start.ALIVE, 0);
        g.setSeed(Draws.seedFor(2, 0));
        Check.same("P12 one round is needed, and enough", g.roundsUntilAgreement(1), 1);
        Check.same("P12 a round", g.round(), 1);
        GossipMembership never = Start.fresh();
        never.join(0, 0);
        never.join(1, 1);
        Check.raises("P12 never", java.util.NoSuchElementException.class, () -> never.roundsUntilAgreement(7));
        Check.same("P12 the rounds stay carried out", never.round(), 7);
        Check.same("P12 a hundred", Reading.answer(() -> never.roundsUntilAgreement(100)), "NoSuchElementException");
        Check.same("P12 a hundred more", never.round(), 107);
        for (int bad : new int[] {0, 101, -1, Integer.MIN_VALUE, Integer.MAX_VALUE}) {
            Check.refuses("P12 " + bad, Start::mixed, IllegalArgumentException.class,
                    x -> x.roundsUntilAgreement(bad));
        }
    }
}

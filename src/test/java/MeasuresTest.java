import java.util.function.Consumer;

/** Promises 24 to 30, 34 and 35: agreement, what is counted, and the quotients. */
final class MeasuresTest {
    private MeasuresTest() {
    }

    static void run() {
        agree();
        disagreements();
        declarations();
        refutations();
        messages();
        quietRoundsInRounds();
        quietRoundsByCalls();
        averageCounter();
        falseShare();
    }

    private static void agree() {
        Check.same("P24 all down", Start.fresh().agree(), true);
        GossipMembership g = Start.fresh();
        g.join(0, 0);
        Check.same("P24 one up", g.agree(), true);
        g.join(1, 1);
        Check.same("P24 unknown to each other", g.agree(), false);
        g.tell(0, 1, Start.ALIVE, 0);
        Check.same("P24 one knows the other", g.agree(), false);
        g.tell(1, 0, Start.ALIVE, 0);
        Check.same("P24 both know each other", g.agree(), true);
        g.tell(0, 6, Start.DEAD, 2);
        Check.same("P24 a third one, down", g.agree(), false);
        g.tell(1, 6, Start.SUSPECT, 2);
        Check.same("P24 another state", g.agree(), false);
        g.tell(1, 6, Start.DEAD, 2);
        Check.same("P24 the same state", g.agree(), true);
        g.tell(1, 6, Start.DEAD, 3);
        Check.same("P24 another incarnation", g.agree(), false);
        g.cut(0, 1, true);
        Check.same("P24 no two reach each other", g.agree(), true);
        g.cut(0, 1, false);
        g.move(1, 1);
        Check.same("P24 in other partitions", g.agree(), true);
        GossipMembership three = Start.all(3);
        Check.same("P24 three", three.agree(), true);
        three.tell(2, 2, Start.DEAD, 0);
        Check.same("P24 one with a new incarnation", three.agree(), false);
        three.tell(0, 2, Start.ALIVE, 1);
        three.tell(1, 2, Start.ALIVE, 1);
        Check.same("P24 all know of it", three.agree(), true);
        three.tell(1, 2, Start.SUSPECT, 1);
        Check.same("P24 a suspect", three.agree(), false);
        GossipMembership two = Start.two();
        two.tell(0, 1, Start.SUSPECT, 0);
        Check.same("P24 the higher one suspect", two.agree(), false);
        GossipMembership back = Start.two();
        back.tell(1, 0, Start.ALIVE, 1);
        Check.same("P24 the lower one with another incarnation", back.agree(), false);
    }

    private static void disagreements() {
        Check.same("P25 all down", Start.fresh().disagreements(), 0);
        GossipMembership g = Start.all(4);
        Check.same("P25 none", g.disagreements(), 0);
        g.tell(0, 7, Start.ALIVE, 0);
        Check.same("P25 one of four differs", g.disagreements(), 3);
        g.tell(1, 7, Start.ALIVE, 1);
        Check.same("P25 by the incarnation", g.disagreements(), 5);
        g.tell(2, 7, Start.SUSPECT, 1);
        Check.same("P25 by the state", g.disagreements(), 6);
        g.tell(3, 1, Start.DEAD, 0);
        Check.same("P25 another third one, that is up", g.disagreements(), 8);
        g.cut(0, 3, true);
        Check.same("P25 only those that reach each other", g.disagreements(), 6);
        g.move(1, 2);
        Check.same("P25 in the same partition", g.disagreements(), 3);
        g.crash(2);
        Check.same("P25 and up", g.disagreements(), 0);
        GossipMembership ends = Start.fresh();
        ends.join(2, 2);
        ends.join(3, 3);
        ends.tell(2, 0, Start.ALIVE, 0);
        Check.same("P25 about the first node", ends.disagreements(), 1);
        ends.tell(3, 7, Start.ALIVE, 0);
        Check.same("P25 about the last node", ends.disagreements(), 2);
        GossipMembership two = Start.fresh();
        two.join(0, 0);
        two.join(1, 1);
        Check.same("P25 not about the two themselves", two.disagreements(), 0);
    }

    /** Node 0 declares a node that it reaches, one that is elsewhere and one that is down. */
    private static GossipMembership declared() {
        GossipMembership g = Start.fresh();
        g.join(0, 0);
        g.join(1, 1);
        g.join(3, 3);
        g.move(3, 1);
        g.setPatience(1);
        g.tell(0, 1, Start.SUSPECT, 0);
        g.tell(0, 3, Start.SUSPECT, 0);
        g.tell(0, 7, Start.SUSPECT, 0);
        g.rounds(1);
        return g;
    }

    private static void declarations() {
        GossipMembership g = declared();
        Check.same("P26 three", g.declarations(), 3);
        Check.same("P27 one false", g.falseDeclarations(), 1);
        g.tell(0, 6, Start.DEAD, 0);
        g.tell(0, 2, Start.DEAD, 9);
        Check.same("P26 news of dead ones is none", g.declarations(), 3);
        g.cut(0, 1, true);
        g.tell(0, 1, Start.SUSPECT, 30);
        g.rounds(1);
        Check.same("P26 one more", g.declarations(), 4);
        Check.same("P27 not false if the link is cut then", g.falseDeclarations(), 1);
        g.tell(0, 1, Start.SUSPECT, 40);
        g.cut(0, 1, false);
        g.rounds(1);
        Check.same("P27 false if the link is mended then", g.falseDeclarations(), 2);
        Check.same("P26 in all", g.declarations(), 5);
    }

    private static void refutations() {
        GossipMembership g = Start.two();
        g.tell(1, 1, Start.SUSPECT, 0);
        Check.same("P28 by a call", g.refutations(), 1);
        g.tell(1, 1, Start.SUSPECT, 0);
        Check.same("P28 not of older news", g.refutations(), 1);
        g.tell(0, 1, Start.DEAD, 1);
        g.rounds(1);
        Check.same("P28 by a message", g.refutations(), 2);
        Check.same("P28 incarnation", g.incarnation(1), 2);
        g.crash(1);
        g.tell(0, 1, Start.SUSPECT, 20);
        g.join(1, 0);
        Check.same("P28 by joining", g.refutations(), 3);
        g.crash(1);
        g.join(1, 1);
        Check.same("P28 not by joining alone", g.refutations(), 3);
    }

    private static void messages() {
        GossipMembership g = Start.all(5);
        Check.same("P29 none", g.messages(), 0);
        g.rounds(2);
        Check.same("P29 two a probe", g.messages(), 20);
        g.rounds(20);
        Check.same("P29 also without news", g.messages(), 220);
        g.crash(4);
        g.join(4, 0);
        Check.same("P29 not by calls", g.messages(), 220);
        GossipMembership alone = Start.two();
        alone.cut(0, 1, true);
        alone.rounds(2);
        Check.same("P29 not for probes that fail", alone.messages(), 0);
    }

    private static void quietRoundsInRounds() {
        GossipMembership g = Start.fresh();
        g.rounds(6);
        Check.same("P30 from the beginning", g.quietRounds(), 6);
        GossipMembership two = Start.two();
        two.rounds(1);
        Check.same("P30 only counters change", two.quietRounds(), 1);
        two.rounds(4);
        Check.same("P30 then", two.quietRounds(), 5);
        two.setPatience(2);
        two.setFanOut(2);
        two.setHelpers(2);
        two.setSeed(2);
        Check.same("P30 settings end nothing", two.quietRounds(), 5);
        two.crash(1);
        Check.same("P30 a call", two.quietRounds(), 0);
        two.rounds(1);
        Check.same("P30 a suspicion", two.quietRounds(), 0);
        two.rounds(1);
        Check.same("P30 a quiet round", two.quietRounds(), 1);
        two.rounds(1);
        Check.same("P30 a declaration", two.quietRounds(), 0);
        two.rounds(3);
        Check.same("P30 three quiet rounds", two.quietRounds(), 3);
        GossipMembership told = Start.prober();
        told.tell(7, 6, Start.SUSPECT, 0);
        told.rounds(1);
        Check.same("P30 a refutation", told.quietRounds(), 0);
        GossipMembership heard = Start.prober();
        heard.tell(7, 6, Start.ALIVE, 0);
        heard.tell(7, 3, Start.DEAD, 0);
        heard.rounds(1);
        Check.same("P30 a view by a message", heard.quietRounds(), 0);
    }

    private static void quietRoundsByCalls() {
        afterCall("P30 join", 0, g -> g.join(7, 7));
        afterCall("P30 crash", 0, g -> g.crash(1));
        afterCall("P30 move", 0, g -> g.move(6, 0));
        afterCall("P30 cut", 0, g -> g.cut(5, 6, false));
        afterCall("P30 tell", 0, g -> g.tell(0, 0, Start.ALIVE, 0));
        afterCall("P30 tell that is ignored", 0, g -> g.tell(0, 1, Start.ALIVE, 0));
        afterCall("P30 join refused", 5, g -> Check.nameOf(() -> g.join(1, 1)));
        afterCall("P30 crash refused", 5, g -> Check.nameOf(() -> g.crash(7)));
        afterCall("P30 move refused", 5, g -> Check.nameOf(() -> g.move(1, 4)));
        afterCall("P30 cut refused", 5, g -> Check.nameOf(() -> g.cut(1, 1, true)));
        afterCall("P30 tell refused", 5, g -> Check.nameOf(() -> g.tell(0, 1, 4, 0)));
        afterCall("P30 a command", 0, g -> command(g, "p61"));
        afterCall("P30 a command refused", 5, g -> command(g, "c7"));
        afterCall("P30 rounds by a command", 8, g -> command(g, "r3"));
        afterCall("P30 a faulty text", 5, g -> command(g, "p61;"));
        afterCall("P30 saving", 5, GossipMembership::save);
        afterCall("P30 asking", 5, g -> g.agree());
    }

    private static void afterCall(String what, int due, Consumer<GossipMembership> call) {
        GossipMembership g = Start.two();
        g.rounds(5);
        call.accept(g);
        Check.same(what, g.quietRounds(), due);
        g.rounds(1);
        if (g.isUp(1)) {
            Check.same(what + ", and a round", g.quietRounds(), due + 1);
        }
    }

    private static void command(GossipMembership g, String text) {
        Start.type(g, text);
        Check.nameOf(g::runText);
    }

    private static void averageCounter() {
        GossipMembership g = Start.two();
        Check.same("P34 two counters", g.averageCounter(0), 0.75);
        g.setFanOut(1);
        g.tell(0, 7, Start.DEAD, 0);
        Check.same("P34 not rounded", g.averageCounter(0), 0.875);
        Check.same("P34 none", g.averageCounter(7), 0.0);
        g.setFanOut(9);
        g.tell(0, 0, Start.DEAD, 0);
        for (int other = 1; other < 8; other++) {
            g.tell(0, other, Start.DEAD, 1);
        }
        Check.same("P34 all", g.averageCounter(0), 9.0);
        for (int bad : new int[] {-1, 8, Integer.MIN_VALUE, Integer.MAX_VALUE}) {
            Check.refuses("P34 " + bad, Start::mixed, IndexOutOfBoundsException.class, x -> x.averageCounter(bad));
        }
    }

    private static void falseShare() {
        Check.same("P35 one of three", declared().falseShare(), 1.0f / 3.0f);
        Check.refuses("P35 no declarations", Start::two, ArithmeticException.class, GossipMembership::falseShare);
        GossipMembership g = Start.two();
        g.setPatience(1);
        g.tell(0, 1, Start.SUSPECT, 0);
        g.rounds(1);
        Check.same("P35 all", g.falseShare(), 1.0f);
        GossipMembership none = Start.two();
        none.setPatience(1);
        none.tell(0, 7, Start.SUSPECT, 0);
        none.rounds(1);
        Check.same("P35 none of one", none.falseShare(), 0.0f);
    }
}

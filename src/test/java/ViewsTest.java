import java.util.NoSuchElementException;

/** Promises 18 to 23: what is told of views, and news from outside. */
final class ViewsTest {
    private static final Class<IndexOutOfBoundsException> INDEX = IndexOutOfBoundsException.class;
    private static final Class<IllegalStateException> STATE = IllegalStateException.class;
    private static final Class<IllegalArgumentException> ARGUMENT = IllegalArgumentException.class;
    private static final Class<NoSuchElementException> NONE = NoSuchElementException.class;
    private static final int[] NO_NODES = {-1, 8, Integer.MIN_VALUE, Integer.MAX_VALUE};

    private ViewsTest() {
    }

    static void run() {
        views();
        deadline();
        counter();
        tellAboutOthers();
        tellAboutItself();
        tellRefused();
        alive();
    }

    private static void views() {
        GossipMembership g = Start.two();
        g.tell(1, 5, Start.ALIVE, 1000);
        g.tell(1, 6, Start.SUSPECT, 8);
        g.tell(1, 7, Start.DEAD, 9);
        Check.same("P18 unknown", g.view(1, 4), 0);
        Check.same("P18 alive", g.view(1, 5), 1);
        Check.same("P18 suspect", g.view(1, 6), 2);
        Check.same("P18 dead", g.view(1, 7), 3);
        Check.same("P18 of one that is down", g.view(7, 1), 0);
        Check.same("P19 unknown", g.viewIncarnation(1, 4), 0);
        Check.same("P19 alive", g.viewIncarnation(1, 5), 1000);
        Check.same("P19 suspect", g.viewIncarnation(1, 6), 8);
        Check.same("P19 dead", g.viewIncarnation(1, 7), 9);
        Check.same("P19 not the other way", g.viewIncarnation(7, 1), 0);
        for (int bad : NO_NODES) {
            Check.refuses("P18 node " + bad, Start::mixed, INDEX, x -> x.view(bad, 0));
            Check.refuses("P18 other " + bad, Start::mixed, INDEX, x -> x.view(0, bad));
            Check.refuses("P18 both " + bad, Start::mixed, INDEX, x -> x.view(bad, bad));
            Check.refuses("P19 node " + bad, Start::mixed, INDEX, x -> x.viewIncarnation(bad, 0));
            Check.refuses("P19 other " + bad, Start::mixed, INDEX, x -> x.viewIncarnation(0, bad));
            Check.refuses("P19 both " + bad, Start::mixed, INDEX, x -> x.viewIncarnation(bad, bad));
        }
        for (int node = 0; node < 8; node++) {
            int same = node;
            Check.refuses("P18 the same " + node, Start::mixed, ARGUMENT, x -> x.view(same, same));
            Check.refuses("P19 the same " + node, Start::mixed, ARGUMENT, x -> x.viewIncarnation(same, same));
        }
    }

    private static void deadline() {
        GossipMembership g = Start.two();
        g.rounds(4);
        g.tell(0, 5, Start.SUSPECT, 1);
        Check.same("P20 present round and patience", g.deadline(0, 5), 7);
        g.setPatience(10);
        g.tell(0, 5, Start.SUSPECT, 1);
        Check.same("P20 the same suspicion", g.deadline(0, 5), 7);
        g.tell(0, 5, Start.SUSPECT, 2);
        Check.same("P20 suspect with another incarnation", g.deadline(0, 5), 14);
        g.tell(0, 6, Start.ALIVE, 0);
        g.tell(0, 6, Start.SUSPECT, 0);
        Check.same("P20 suspect after alive", g.deadline(0, 6), 14);
        g.tell(0, 7, Start.DEAD, 0);
        g.tell(0, 7, Start.SUSPECT, 1);
        Check.same("P20 suspect after dead", g.deadline(0, 7), 14);
        Check.refuses("P20 unknown", Start::two, NONE, x -> x.deadline(0, 5));
        Check.refuses("P20 alive", Start::two, NONE, x -> x.deadline(0, 1));
        g.tell(0, 7, Start.DEAD, 1);
        Check.raises("P20 dead", NONE, () -> g.deadline(0, 7));
        g.tell(0, 6, Start.ALIVE, 1);
        Check.raises("P20 alive again", NONE, () -> g.deadline(0, 6));
        for (int bad : NO_NODES) {
            Check.refuses("P20 node " + bad, Start::mixed, INDEX, x -> x.deadline(bad, 0));
            Check.refuses("P20 other " + bad, Start::mixed, INDEX, x -> x.deadline(0, bad));
            Check.refuses("P20 both " + bad, Start::mixed, INDEX, x -> x.deadline(bad, bad));
        }
        Check.refuses("P20 the same", Start::mixed, ARGUMENT, x -> x.deadline(3, 3));
    }

    private static void counter() {
        GossipMembership g = Start.two();
        Check.same("P21 of itself", g.counter(1, 1), 3);
        Check.same("P21 of another", g.counter(1, 0), 3);
        Check.same("P21 of an unknown one", g.counter(1, 7), 0);
        Check.same("P21 of one that is down", g.counter(7, 7), 0);
        g.setFanOut(8);
        g.tell(1, 7, Start.DEAD, 0);
        Check.same("P21 set by news", g.counter(1, 7), 8);
        Check.same("P21 not the other way", g.counter(7, 1), 0);
        g.setFanOut(5);
        g.tell(1, 7, Start.DEAD, 0);
        Check.same("P21 not by ignored news", g.counter(1, 7), 8);
        g.tell(1, 7, Start.DEAD, 1);
        Check.same("P21 by a new incarnation", g.counter(1, 7), 5);
        for (int bad : NO_NODES) {
            Check.refuses("P21 node " + bad, Start::mixed, INDEX, x -> x.counter(bad, 0));
            Check.refuses("P21 about " + bad, Start::mixed, INDEX, x -> x.counter(0, bad));
        }
    }

    /** Each view from which news comes, and each news: what becomes of the view. */
    private static void tellAboutOthers() {
        for (int held = 0; held <= 3; held++) {
            for (int state = 1; state <= 3; state++) {
                for (int incarnation = 4; incarnation <= 6; incarnation++) {
                    oneNews(held, state, incarnation);
                }
            }
        }
        GossipMembership g = Start.two();
        Check.same("P22 unknown becomes any news", g.tell(0, 7, Start.ALIVE, 0), true);
        Check.same("P22 but once", g.tell(0, 7, Start.ALIVE, 0), false);
        Check.same("P22 the greatest incarnation", g.tell(0, 7, Start.DEAD, 1000), true);
        Check.same("P22 stands", g.viewIncarnation(0, 7), 1000);
        Check.same("P22 others do not hear of it", g.view(1, 7), 0);
    }

    private static void oneNews(int held, int state, int incarnation) {
        GossipMembership g = Start.two();
        if (held != 0) {
            g.tell(0, 6, held, 5);
        }
        boolean due = held == 0 || incarnation > 5 || incarnation == 5 && state > held;
        g.setFanOut(9);
        String what = "P22 from " + held + "/5 by " + state + "/" + incarnation;
        Check.same(what, g.tell(0, 6, state, incarnation), due);
        Check.same(what + " state", g.view(0, 6), due ? state : held);
        Check.same(what + " incarnation", g.viewIncarnation(0, 6), due ? incarnation : 5);
        Check.same(what + " counter", g.counter(0, 6), due ? 9 : 3);
    }

    private static void tellAboutItself() {
        for (int state = 2; state <= 3; state++) {
            GossipMembership g = Start.two();
            g.tell(0, 0, Start.DEAD, 4);
            Check.same("P22 refuted", g.incarnation(0), 5);
            g.setFanOut(7);
            Check.same("P22 older news", g.tell(0, 0, state, 4), false);
            Check.same("P22 own incarnation stays", g.incarnation(0), 5);
            Check.same("P22 own counter stays", g.counter(0, 0), 3);
            Check.same("P22 news of the same incarnation", g.tell(0, 0, state, 5), true);
            Check.same("P22 own incarnation then", g.incarnation(0), 6);
            Check.same("P22 own counter then", g.counter(0, 0), 7);
            Check.same("P22 newer news", g.tell(0, 0, state, 1000), true);
            Check.same("P22 own incarnation at last", g.incarnation(0), 1001);
            Check.same("P22 refutations", g.refutations(), 3);
            Check.same("P22 alive news", g.tell(0, 0, Start.ALIVE, 1000), false);
            Check.same("P22 others do not hear of it", g.viewIncarnation(1, 0), 0);
        }
        GossipMembership g = Start.two();
        Check.same("P22 alive news of itself", g.tell(0, 0, Start.ALIVE, 9), false);
        Check.same("P22 is ignored", g.incarnation(0), 0);
        Check.same("P22 nothing refuted", g.refutations(), 0);
    }

    private static void tellRefused() {
        for (int bad : NO_NODES) {
            Check.refuses("P22 node " + bad, Start::mixed, INDEX, x -> x.tell(bad, 0, 1, 0));
            Check.refuses("P22 about " + bad, Start::mixed, INDEX, x -> x.tell(4, bad, 0, 0));
        }
        Check.refuses("P22 down", Start::mixed, STATE, x -> x.tell(4, 0, 1, 900));
        Check.refuses("P22 down, and a bad state", Start::mixed, STATE, x -> x.tell(4, 0, 4, 0));
        Check.refuses("P22 down, and a bad incarnation", Start::mixed, STATE, x -> x.tell(7, 7, 1, -1));
        for (int bad : new int[] {0, 4, -1, Integer.MIN_VALUE, Integer.MAX_VALUE}) {
            Check.refuses("P22 state " + bad, Start::mixed, ARGUMENT, x -> x.tell(0, 7, bad, 5));
        }
        for (int bad : new int[] {-1, 1001, Integer.MIN_VALUE, Integer.MAX_VALUE}) {
            Check.refuses("P22 incarnation " + bad, Start::mixed, ARGUMENT, x -> x.tell(0, 7, 1, bad));
            Check.refuses("P22 of itself " + bad, Start::mixed, ARGUMENT, x -> x.tell(0, 0, 3, bad));
        }
    }

    private static void alive() {
        GossipMembership g = Start.two();
        Check.same("P23 one", g.alive(0), 0b10);
        g.tell(0, 7, Start.ALIVE, 0);
        g.tell(0, 4, Start.SUSPECT, 0);
        g.tell(0, 5, Start.DEAD, 0);
        Check.same("P23 no suspects and dead ones", g.alive(0), 0b10000010);
        g.tell(0, 0, Start.SUSPECT, 0);
        Check.same("P23 not itself", g.alive(0), 0b10000010);
        g.crash(0);
        Check.same("P23 of one that is down", g.alive(0), 0b10000010);
        Check.same("P23 none", g.alive(6), 0);
        for (int bad : NO_NODES) {
            Check.refuses("P23 " + bad, Start::mixed, INDEX, x -> x.alive(bad));
        }
    }
}

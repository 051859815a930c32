/** The sentences of the description on news and on passing it on: each at its ends. */
final class NewsSentencesTest {
    private static final int UNKNOWN = 0;

    private NewsSentencesTest() {
    }

    static void run() {
        unknownBecomesAnyNews();
        newsOfEachAge();
        ignoredNewsChangesNothing();
        deadlineOfEachLeastAndGreatestPatience();
        deadlineHoweverItBecomesSuspect();
        suspectKeepsItsDeadline();
        newsAboutItself();
        aliveNewsAboutItselfIsIgnored();
        newsComesFromRange();
        incarnationsBeyondWhatIsTold();
        counterBecomesTheFanOut();
        atMostThree();
        greatestCountersFirst();
        lowerNumbersFirst();
        counterOfOneIsTheLast();
        newsAboutTheSenderItself();
        nothingAheadOfUnknownAndAlive();
        aheadOfSuspectAndDead();
        aheadWithoutCounting();
        aheadAndAmongTheThree();
        restOfAMessageWithNewsAhead();
    }

    /** "if its view is unknown, the view becomes the news"; "dead and suspect news too" */
    private static void unknownBecomesAnyNews() {
        for (int state = Start.ALIVE; state <= Start.DEAD; state++) {
            for (int incarnation : new int[] {0, 1, 1000}) {
                GossipMembership g = Start.two();
                String what = "unknown: by " + state + "/" + incarnation;
                Check.same(what, g.tell(0, 7, state, incarnation), true);
                Check.same(what + ", the state", g.view(0, 7), state);
                Check.same(what + ", the incarnation", g.viewIncarnation(0, 7), incarnation);
                Check.same(what + ", the counter", g.counter(0, 7), 3);
                Check.same(what + ", the deadline", Reading.answer(() -> g.deadline(0, 7)),
                        state == Start.SUSPECT ? "3" : "NoSuchElementException");
                Check.same(what + ", once more", g.tell(0, 7, state, incarnation), false);
            }
        }
    }

    /** News that is older, as old or newer than the view, by 1 and by all, at both ends of what can be told. */
    private static void newsOfEachAge() {
        for (int held = Start.ALIVE; held <= Start.DEAD; held++) {
            for (int state = Start.ALIVE; state <= Start.DEAD; state++) {
                age(held, 0, state, 0, state > held);
                age(held, 1000, state, 1000, state > held);
                age(held, 0, state, 1, true);
                age(held, 0, state, 1000, true);
                age(held, 999, state, 1000, true);
                age(held, 1, state, 0, false);
                age(held, 1000, state, 999, false);
                age(held, 1000, state, 0, false);
            }
        }
    }

    private static void age(int held, int old, int state, int incarnation, boolean due) {
        GossipMembership g = Start.two();
        g.tell(1, 0, held, old);
        boolean first = held != Start.ALIVE || old != 0;
        String what = "news: " + held + "/" + old + " by " + state + "/" + incarnation;
        Check.same(what + ", what is held", g.view(1, 0) * 10000 + g.viewIncarnation(1, 0), held * 10000 + old);
        g.setFanOut(first ? 5 : 6);
        Check.same(what, g.tell(1, 0, state, incarnation), due);
        Check.same(what + ", the state", g.view(1, 0), due ? state : held);
        Check.same(what + ", the incarnation", g.viewIncarnation(1, 0), due ? incarnation : old);
        Check.same(what + ", the counter", g.counter(1, 0), !due ? 3 : first ? 5 : 6);
    }

    /** "other news is ignored": it leaves all as it was. */
    private static void ignoredNewsChangesNothing() {
        for (int held = Start.ALIVE; held <= Start.DEAD; held++) {
            for (int state = Start.ALIVE; state <= Start.DEAD; state++) {
                GossipMembership told = holding(held);
                told.tell(0, 7, state, 4);
                told.tell(0, 7, Math.min(state, held), 5);
                told.tell(0, 7, state, 0);
                told.tell(0, 0, state, 1);
                told.tell(0, 0, Start.ALIVE, 1000);
                Check.same("ignored: " + state + " by " + held, Reading.all(told), Reading.all(holding(held)));
            }
        }
    }

    private static GossipMembership holding(int state) {
        GossipMembership g = Start.two();
        g.tell(0, 7, state, 5);
        g.tell(0, 0, Start.DEAD, 1);
        g.setFanOut(8);
        g.setPatience(11);
        return g;
    }

    /** "the deadline present round plus the patience", from 1 to 20, before the first round and later. */
    private static void deadlineOfEachLeastAndGreatestPatience() {
        GossipMembership g = Start.fresh();
        g.join(0, 0);
        g.setPatience(1);
        g.tell(0, 1, Start.SUSPECT, 0);
        g.setPatience(20);
        g.tell(0, 7, Start.SUSPECT, 0);
        Check.same("deadline: of the least patience", g.deadline(0, 1), 1);
        Check.same("deadline: of the greatest patience", g.deadline(0, 7), 20);
        g.rounds(1);
        Check.same("deadline: reached", g.view(0, 1), 3);
        Check.same("deadline: not reached", g.view(0, 7), 2);
        g.rounds(18);
        Check.same("deadline: one round before", g.view(0, 7), 2);
        g.rounds(1);
        Check.same("deadline: reached at last", g.view(0, 7), 3);
        g.tell(0, 6, Start.SUSPECT, 0);
        Check.same("deadline: in a later round", g.deadline(0, 6), 40);
    }

    /** "however it becomes so": told, by a message, when joining, by an answer and by a probe that fails. */
    private static void deadlineHoweverItBecomesSuspect() {
        GossipMembership told = Start.calm();
        told.setPatience(8);
        told.tell(7, 0, Start.SUSPECT, 0);
        told.tell(7, 1, Start.DEAD, 0);
        told.tell(7, 1, Start.SUSPECT, 1);
        Check.same("becomes suspect: told", told.deadline(7, 0), 9);
        Check.same("becomes suspect: was dead", told.deadline(7, 1), 9);
        told.setSeed(Draws.seedFor(3, 2));
        told.rounds(1);
        Check.same("becomes suspect: by a message", told.deadline(6, 0), 10);
        Check.same("becomes suspect: the sender's stays", told.deadline(7, 0), 9);
        told.setPatience(4);
        told.join(5, 7);
        Check.same("becomes suspect: when joining", told.deadline(5, 0), 6);
        GossipMembership answer = Start.calm();
        answer.setPatience(5);
        answer.tell(6, 2, Start.SUSPECT, 0);
        answer.rounds(1);
        Check.same("becomes suspect: by an answer", answer.deadline(7, 2), 7);
        GossipMembership probing = Start.fresh();
        probing.join(0, 0);
        probing.setPatience(20);
        probing.tell(0, 7, Start.ALIVE, 3);
        probing.rounds(1);
        Check.same("becomes suspect: by a probe", probing.deadline(0, 7), 21);
        Check.same("becomes suspect: with the same incarnation", probing.viewIncarnation(0, 7), 3);
    }

    /** "suspect with another incarnation" gets a deadline, "a view that is suspect already keeps" it. */
    private static void suspectKeepsItsDeadline() {
        for (int incarnation = 4; incarnation <= 6; incarnation++) {
            GossipMembership g = Start.fresh();
            g.join(0, 0);
            g.setPatience(20);
            g.tell(0, 7, Start.SUSPECT, 5);
            g.setPatience(6);
            g.rounds(1);
            Check.same("keeps its deadline: probed", g.deadline(0, 7), 20);
            g.tell(0, 7, Start.SUSPECT, incarnation);
            Check.same("keeps its deadline: told " + incarnation, g.deadline(0, 7), incarnation == 6 ? 7 : 20);
        }
        for (int incarnation = 4; incarnation <= 6; incarnation++) {
            GossipMembership g = Start.prober();
            g.setPatience(20);
            g.tell(6, 0, Start.SUSPECT, 5);
            g.tell(7, 6, Start.ALIVE, 0);
            g.tell(7, 0, Start.SUSPECT, incarnation);
            g.setPatience(6);
            // Node 6 probes node 0 before node 7 probes node 6.
            g.setSeed(Draws.seedFor(1, 0, 2, 1));
            g.rounds(1);
            Check.same("keeps its deadline: a message " + incarnation, g.deadline(6, 0), incarnation == 6 ? 7 : 20);
            Check.same("keeps its deadline: the answer " + incarnation, g.deadline(7, 0), incarnation == 4 ? 7 : 20);
        }
    }

    /** "whose incarnation is not less than its own": less by 1, the same, and greater by 1 */
    private static void newsAboutItself() {
        for (int own : new int[] {0, 1, 7, 1000}) {
            for (int state = Start.SUSPECT; state <= Start.DEAD; state++) {
                for (int news = Math.max(0, own - 1); news <= Math.min(1000, own + 1); news++) {
                    GossipMembership g = Start.two();
                    if (own > 0) {
                        g.tell(1, 1, Start.DEAD, own - 1);
                    }
                    int refutations = g.refutations();
                    boolean due = news >= own;
                    g.setFanOut(9);
                    String what = "itself: " + own + " by " + state + "/" + news;
                    Check.same(what, g.tell(1, 1, state, news), due);
                    Check.same(what + ", the incarnation", g.incarnation(1), due ? news + 1 : own);
                    Check.same(what + ", refutations", g.refutations() - refutations, due ? 1 : 0);
                    Check.same(what + ", the counter", g.counter(1, 1), due ? 9 : 3);
                }
            }
        }
    }

    /** "News about a node itself that is alive is ignored whatever its incarnation is" */
    private static void aliveNewsAboutItselfIsIgnored() {
        for (int news : new int[] {0, 4, 5, 6, 1000}) {
            GossipMembership g = Start.two();
            g.tell(0, 0, Start.DEAD, 4);
            g.setFanOut(9);
            Check.same("itself alive: " + news, g.tell(0, 0, Start.ALIVE, news), false);
            Check.same("itself alive: the incarnation", g.incarnation(0), 5);
            Check.same("itself alive: the counter", g.counter(0, 0), 3);
            Check.same("itself alive: refutations", g.refutations(), 1);
        }
        GossipMembership message = Start.calm();
        message.tell(7, 6, Start.ALIVE, 90);
        message.rounds(1);
        Check.same("itself alive: by a message", message.incarnation(6), 1);
        Check.same("itself alive: so that the sender stays ahead", message.viewIncarnation(7, 6), 90);
        Check.same("itself alive: it was sent", message.counter(7, 6), 2);
    }

    /** "the state, 1 to 3"; "the incarnation, 0 to 1000" */
    private static void newsComesFromRange() {
        GossipMembership g = Start.two();
        Check.same("range: the least", g.tell(0, 7, 1, 0), true);
        Check.same("range: the greatest", g.tell(0, 7, 3, 1000), true);
        Check.same("range: the greatest of itself", g.tell(0, 0, 3, 1000), true);
        Check.same("range: refuted", g.incarnation(0), 1001);
        int[][] beyond = {{0, 0}, {4, 0}, {1, -1}, {1, 1001}, {3, 1001}, {4, 1001}, {0, -1}};
        for (int[] news : beyond) {
            Check.raises("range: not " + news[0] + "/" + news[1], IllegalArgumentException.class,
                    () -> g.tell(0, 6, news[0], news[1]));
        }
        Check.same("range: unknown still", g.view(0, 6), UNKNOWN);
    }

    /** Incarnations can become greater than what can be told, and go on with messages and when joining. */
    private static void incarnationsBeyondWhatIsTold() {
        GossipMembership g = Start.calm();
        g.tell(6, 6, Start.DEAD, 1000);
        g.crash(6);
        Check.same("beyond: joined again", g.join(6, 6), 1002);
        g.rounds(1);
        Check.same("beyond: by a message", g.viewIncarnation(7, 6), 1002);
        g.tell(7, 6, Start.DEAD, 1000);
        Check.same("beyond: older news is ignored", g.view(7, 6), 1);
        g.crash(6);
        g.rounds(1);
        Check.same("beyond: suspect", g.view(7, 6) * 10000 + g.viewIncarnation(7, 6), 21002);
        Check.same("beyond: one greater is not refuted", g.join(6, 7), 1003);
        Check.same("beyond: the contact takes it in", g.view(7, 6) * 10000 + g.viewIncarnation(7, 6), 11003);
    }

    /** "Whenever a view .. changes in its state or its incarnation, or the own incarnation increases" */
    private static void counterBecomesTheFanOut() {
        GossipMembership g = Start.two();
        int[][] changes = {{Start.ALIVE, 4}, {Start.ALIVE, 5}, {Start.SUSPECT, 5}, {Start.SUSPECT, 6},
            {Start.DEAD, 6}, {Start.DEAD, 7}, {Start.ALIVE, 8}};
        for (int k = 0; k < changes.length; k++) {
            g.setFanOut(9 - k);
            g.tell(0, 7, changes[k][0], changes[k][1]);
            Check.same("becomes the fan-out: change " + k, g.counter(0, 7), 9 - k);
        }
        g.setFanOut(9);
        g.tell(0, 7, Start.ALIVE, 8);
        Check.same("becomes the fan-out: not without a change", g.counter(0, 7), 3);
        GossipMembership turns = Start.fresh();
        turns.join(0, 0);
        turns.setPatience(1);
        turns.tell(0, 7, Start.ALIVE, 0);
        turns.setFanOut(9);
        turns.rounds(1);
        Check.same("becomes the fan-out: by a suspicion", turns.counter(0, 7), 9);
        turns.setFanOut(1);
        turns.rounds(1);
        Check.same("becomes the fan-out: by a declaration", turns.counter(0, 7), 1);
        GossipMembership refuting = Start.calm();
        refuting.setFanOut(7);
        refuting.tell(6, 6, Start.SUSPECT, 0);
        Check.same("becomes the fan-out: not by older news", refuting.counter(6, 6), 1);
        refuting.tell(6, 6, Start.SUSPECT, 1);
        Check.same("becomes the fan-out: by a refutation", refuting.counter(6, 6), 7);
    }

    /** "at most 3 of them": none, one, two, three and four that could be sent */
    private static void atMostThree() {
        for (int count = 0; count <= 5; count++) {
            GossipMembership g = Start.calm();
            g.setFanOut(2);
            for (int dead = 0; dead < count; dead++) {
                g.tell(7, dead, Start.DEAD, 0);
            }
            g.rounds(1);
            for (int dead = 0; dead < 5; dead++) {
                boolean sent = dead < Math.min(3, count);
                Check.same("at most three: " + dead + " of " + count, g.view(6, dead), sent ? 3 : 0);
                Check.same("at most three: counter of " + dead + " of " + count, g.counter(7, dead),
                        dead >= count ? 0 : sent ? 1 : 2);
            }
            Check.same("at most three: two messages with " + count, g.messages(), 4);
        }
    }

    /** "the ones with the greatest counters first": the one left over is the one with the least. */
    private static void greatestCountersFirst() {
        for (int least = 0; least < 4; least++) {
            GossipMembership g = Start.calm();
            for (int dead = 0; dead < 4; dead++) {
                Start.tellWithCount(g, 7, dead, Start.DEAD, dead == least ? 8 : 9);
            }
            g.rounds(1);
            for (int dead = 0; dead < 4; dead++) {
                Check.same("greatest first: " + dead + " with least " + least, g.view(6, dead), dead == least ? 0 : 3);
                Check.same("greatest first: counter of " + dead, g.counter(7, dead), 8);
            }
        }
    }

    /** "of equal ones those with lower numbers first", the sender and the receiver at their own places too */
    private static void lowerNumbersFirst() {
        GossipMembership g = Start.fresh();
        g.join(0, 0);
        g.join(3, 3);
        Start.tellWithCount(g, 3, 0, Start.ALIVE, 1);
        for (int dead : new int[] {5, 4, 2, 1}) {
            g.tell(3, dead, Start.DEAD, 0);
        }
        g.rounds(1);
        Check.same("lower numbers first: the first two", g.view(0, 1) + g.view(0, 2), 6);
        Check.same("lower numbers first: the sender third", g.view(0, 3), 1);
        Check.same("lower numbers first: no more", g.view(0, 4) + g.view(0, 5), 0);
        Check.same("lower numbers first: the receiver has less", g.counter(3, 0), 1);
        GossipMembership first = Start.fresh();
        first.join(0, 0);
        first.join(3, 3);
        for (int known : new int[] {0, 1, 2, 4}) {
            first.tell(3, known, known == 0 ? Start.ALIVE : Start.DEAD, 0);
        }
        first.setFanOut(1);
        first.rounds(1);
        Check.same("lower numbers first: the receiver's place is used", first.counter(3, 0), 2);
        Check.same("lower numbers first: then two", first.view(0, 1) + first.view(0, 2), 6);
        Check.same("lower numbers first: not the sender", first.view(0, 3), 0);
    }

    /** "those nodes whose counters are greater than 0": one with 1 is sent once more, then no more. */
    private static void counterOfOneIsTheLast() {
        GossipMembership g = Start.calm();
        Start.tellWithCount(g, 7, 2, Start.DEAD, 2);
        for (int time = 1; time <= 3; time++) {
            g.rounds(1);
            Check.same("counter of one: time " + time, g.view(6, 2), time <= 2 ? 3 : 0);
            Check.same("counter of one: what is left", g.counter(7, 2), Math.max(0, 2 - time));
            g.crash(6);
            g.join(6, 6);
        }
    }

    /** "about itself that it is alive with its own incarnation", whatever was said of it */
    private static void newsAboutTheSenderItself() {
        GossipMembership g = Start.calm();
        g.tell(7, 7, Start.DEAD, 41);
        g.rounds(1);
        Check.same("the sender: alive", g.view(6, 7), 1);
        Check.same("the sender: its incarnation", g.viewIncarnation(6, 7), 42);
        Check.same("the sender: its counter", g.counter(7, 7), 2);
        GossipMembership view = Start.calm();
        view.tell(7, 3, Start.SUSPECT, 1000);
        view.setSeed(Draws.seedFor(2, 1));
        view.rounds(1);
        Check.same("others: the view", view.view(6, 3), 2);
        Check.same("others: its incarnation", view.viewIncarnation(6, 3), 1000);
    }

    /** Only "to a node that is suspect or dead in the view of the sender" there is news ahead. */
    private static void nothingAheadOfUnknownAndAlive() {
        GossipMembership unknown = Start.calm();
        unknown.rounds(1);
        Check.same("nothing ahead: the partner is unknown to the answering", unknown.view(6, 7), 0);
        Check.same("nothing ahead: nothing to refute", unknown.refutations(), 0);
        Check.same("nothing ahead: the incarnations stay", unknown.incarnation(6) * 10 + unknown.incarnation(7), 10);
        GossipMembership alive = Start.calm();
        alive.tell(7, 6, Start.ALIVE, 50);
        alive.rounds(1);
        Check.same("nothing ahead: an alive partner", alive.refutations(), 0);
        Check.same("nothing ahead: its incarnation", alive.incarnation(6), 1);
    }

    /** A suspect partner hears of itself from the node, a suspect or dead node in the partner's answer. */
    private static void aheadOfSuspectAndDead() {
        GossipMembership partner = Start.calm();
        partner.tell(7, 6, Start.SUSPECT, 30);
        partner.rounds(1);
        Check.same("ahead: a suspect partner refutes", partner.incarnation(6), 31);
        Check.same("ahead: which the node hears in the answer", partner.viewIncarnation(7, 6), 31);
        for (int state = Start.ALIVE; state <= Start.DEAD; state++) {
            GossipMembership node = Start.fresh();
            node.setHelpers(0);
            node.join(0, 0);
            node.join(7, 7);
            node.tell(0, 7, Start.ALIVE, 0);
            node.tell(7, 0, state, 30);
            node.tell(7, 5, Start.ALIVE, 0);
            // Node 7 probes node 5, so that node 0 hears of it in the answer alone.
            node.setSeed(state == Start.DEAD ? 1 : Draws.seedFor(1, 0, 2, 1));
            node.rounds(1);
            Check.same("ahead: one probe with " + state, node.messages(), 2);
            Check.same("ahead: the answer to one held " + state, node.incarnation(0), state == Start.ALIVE ? 0 : 31);
        }
    }

    /** Node 7 suspects node 6 and has told node 5, so that its counter for node 6 has run out. */
    private static GossipMembership withCounterRunOut() {
        GossipMembership g = Start.calm();
        g.join(5, 5);
        Start.tellWithCount(g, 7, 6, Start.SUSPECT, 5, 1);
        Start.tellWithCount(g, 7, 5, Start.ALIVE, 2);
        g.setSeed(Draws.seedFor(2, 0));
        g.rounds(1);
        g.crash(5);
        return g;
    }

    /** "ahead of all else and without counting" */
    private static void aheadWithoutCounting() {
        GossipMembership g = withCounterRunOut();
        Check.same("without counting: run out before", g.counter(7, 6), 0);
        // Node 6 has others to tell of first, so that node 7 does not hear of its refutation.
        for (int dead : new int[] {0, 1, 5}) {
            Start.tellWithCount(g, 6, dead, Start.DEAD, 9);
        }
        for (int dead = 2; dead < 5; dead++) {
            Start.tellWithCount(g, 7, dead, Start.DEAD, 9);
        }
        g.setFanOut(1);
        g.setSeed(Draws.seedFor(2, 1));
        g.rounds(1);
        Check.same("without counting: sent though its counter is 0", g.incarnation(6), 6);
        Check.same("without counting: the counter stays", g.counter(7, 6), 0);
        Check.same("without counting: three others are sent", g.view(6, 2) + g.view(6, 3) + g.view(6, 4), 9);
        Check.same("without counting: they count", g.counter(7, 2) + g.counter(7, 3) + g.counter(7, 4), 24);
    }

    /** "if it would be sent otherwise, too, it is sent only once, and its counter decreases", at the last place too. */
    private static void aheadAndAmongTheThree() {
        for (int others = 0; others <= 3; others++) {
            GossipMembership g = Start.calm();
            for (int dead = 0; dead < 3; dead++) {
                Start.tellWithCount(g, 6, dead, Start.DEAD, 9);
            }
            for (int dead = 3; dead < 3 + others; dead++) {
                Start.tellWithCount(g, 7, dead, Start.DEAD, 6);
            }
            Start.tellWithCount(g, 7, 6, Start.SUSPECT, 5, 5);
            Start.tellWithCount(g, 7, 7, Start.SUSPECT, 4);
            g.setFanOut(1);
            g.rounds(1);
            Check.same("among the three: refuted, with " + others, g.incarnation(6), 6);
            Check.same("among the three: once, with " + others, g.refutations(), 2);
            Check.same("among the three: its counter, with " + others, g.counter(7, 6), others == 3 ? 5 : 4);
            for (int dead = 3; dead < 6; dead++) {
                Check.same("among the three: " + dead + " of " + others, g.view(6, dead), dead < 3 + others ? 3 : 0);
            }
            Check.same("among the three: the next, with " + others, g.view(6, 7), others <= 1 ? 1 : 0);
            Check.same("among the three: its counter, with " + others, g.counter(7, 7), others <= 1 ? 3 : 4);
        }
    }

    /** What is ahead leaves the rest of a message as it is, the news about the sender too. */
    private static void restOfAMessageWithNewsAhead() {
        GossipMembership g = Start.calm();
        g.tell(7, 6, Start.SUSPECT, 8);
        g.tell(7, 7, Start.SUSPECT, 2);
        g.tell(7, 0, Start.DEAD, 5);
        g.rounds(1);
        Check.same("the rest: refuted", g.incarnation(6), 9);
        Check.same("the rest: the sender", g.view(6, 7) * 100 + g.viewIncarnation(6, 7), 103);
        Check.same("the rest: another one", g.view(6, 0) * 100 + g.viewIncarnation(6, 0), 305);
        Check.same("the rest: the counters", g.counter(7, 0) * 10 + g.counter(7, 7), 22);
    }
}

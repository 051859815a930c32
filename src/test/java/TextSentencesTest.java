import java.util.NoSuchElementException;

/** The description's sentences on texts, and promises 31 to 33, 36 and 37: each at its ends. */
final class TextSentencesTest {
    private static final Class<IllegalStateException> STATE = IllegalStateException.class;
    private static final Class<IllegalArgumentException> ARGUMENT = IllegalArgumentException.class;

    private TextSentencesTest() {
    }

    static void run() {
        emptyTextAtFirst();
        fortyCharacters();
        eachCharacter();
        fullTexts();
        shortestTexts();
        eachCommand();
        faultAtEachPlace();
        faultyTextIsNotCarriedOut();
        upToTheFirstThatThrows();
        contactsThatCannotBeReached();
        emptiedInEachCase();
        failureOfTheLatestCall();
        nothingSavedYet();
        savedAtFirst();
        savesEachViewAndLink();
        savedInPlaceOfTheOne();
        textIsNotSaved();
    }

    private static String fill(char sign, int count) {
        return String.valueOf(sign).repeat(count);
    }

    private static int run(GossipMembership g, String text) {
        Start.type(g, text);
        return g.runText();
    }

    /** "which is empty at first": an empty text has its fault at 0, as it ends too early. */
    private static void emptyTextAtFirst() {
        GossipMembership g = Start.fresh();
        Check.raises("empty text: refused", ARGUMENT, g::runText);
        Check.same("empty text: a fault", g.failure(0), 1);
        Check.same("empty text: at 0", g.failure(1), 0);
        Check.same("empty text: a length of 1 then", g.appendCharacter('c'), 1);
    }

    /** "a text of at most 40 characters": the fortieth is taken, the next is not. */
    private static void fortyCharacters() {
        GossipMembership g = Start.fresh();
        for (int length = 1; length <= 40; length++) {
            Check.same("forty: length", g.appendCharacter(length % 2 == 0 ? 126 : 33), length);
        }
        Check.raises("forty: no more", STATE, () -> g.appendCharacter(33));
        Check.raises("forty: no more of the greatest", STATE, () -> g.appendCharacter(126));
        Check.raises("forty: a bad character first", ARGUMENT, () -> g.appendCharacter(127));
        Check.raises("forty: another bad one first", ARGUMENT, () -> g.appendCharacter(32));
        GossipMembership part = Start.fresh();
        Start.type(part, fill('c', 39));
        Check.raises("thirty-nine: a bad character", ARGUMENT, () -> part.appendCharacter(32));
        Check.same("thirty-nine: one more", part.appendCharacter('c'), 40);
        Check.raises("thirty-nine: no more then", STATE, () -> part.appendCharacter('c'));
    }

    /** "the character code, 33 to 126": each of them, and none of the others up to 255 */
    private static void eachCharacter() {
        for (int character = -3; character <= 258; character++) {
            GossipMembership g = Start.fresh();
            int code = character;
            boolean good = code >= 33 && code <= 126;
            Check.same("character " + code, Reading.answer(() -> g.appendCharacter(code)),
                    good ? "1" : "IllegalArgumentException");
            Check.same("the next after " + code, g.appendCharacter('!'), good ? 2 : 1);
        }
    }

    /** Texts of 40 characters: whole, with a fault at the last place, and ending too early. */
    private static void fullTexts() {
        GossipMembership whole = Start.fresh();
        Check.same("full text: commands", run(whole, "r1;".repeat(11) + "p12;p23"), 13);
        Check.same("full text: rounds", whole.round(), 11);
        Check.same("full text: the last two", whole.partition(1) * 10 + whole.partition(2), 23);
        fullTextWithFault("r1;".repeat(12) + "p23x", 39);
        fullTextWithFault("r1;".repeat(11) + "p12;p24", 39);
        fullTextWithFault("r1;".repeat(11) + "p12;r1r", 39);
        fullTextWithFault("r1;".repeat(12) + "p23;", 40);
        fullTextWithFault("r1;".repeat(12) + "r1;r", 40);
        fullTextWithFault("r1;".repeat(10) + "p23;p23;j7", 40);
        fullTextWithFault("r1;".repeat(9) + "p12;p12;p12;j", 40);
    }

    private static void fullTextWithFault(String text, int position) {
        GossipMembership g = Start.fresh();
        Start.type(g, text);
        Check.raises("full text: no room behind " + text, STATE, () -> g.appendCharacter('1'));
        Check.raises("full text: " + text, ARGUMENT, g::runText);
        Check.same("full text: position in " + text, g.failure(1), position);
        Check.same("full text: nothing is carried out", g.round() + g.partition(1) + g.partition(2), 0);
    }

    /** "one or more commands": one of each kind, with the least and the greatest digits */
    private static void shortestTexts() {
        GossipMembership g = Start.fresh();
        Check.same("shortest: join the first", run(g, "j00"), 1);
        Check.same("shortest: join the last", run(g, "j77"), 1);
        Check.same("shortest: both are up", g.isUp(0) && g.isUp(7), true);
        Check.same("shortest: crash the first", run(g, "c0"), 1);
        Check.same("shortest: crash the last", run(g, "c7"), 1);
        Check.same("shortest: both are down", g.isUp(0) || g.isUp(7), false);
        Check.same("shortest: move the last", run(g, "p73"), 1);
        Check.same("shortest: to the last", g.partition(7), 3);
        Check.same("shortest: back to the first", run(g, "p70") + g.partition(7), 1);
        Check.same("shortest: the least of rounds", run(g, "r1") + g.round(), 2);
        Check.same("shortest: the most rounds", run(g, "r9") + g.round(), 11);
    }

    /** Each digit of each command means what it says. */
    private static void eachCommand() {
        for (int a = 0; a < 8; a++) {
            for (int b = 0; b < 8; b++) {
                GossipMembership typed = Start.all(4);
                GossipMembership called = Start.all(4);
                int node = a;
                int other = b;
                Start.type(typed, "j" + a + b);
                String due = Check.nameOf(() -> called.join(node, other));
                Check.same("command j" + a + b, Check.nameOf(typed::runText),
                        due.equals("nothing") ? due : "IllegalStateException");
                Check.same("command j" + a + b + ": its failure", Reading.answer(() -> typed.failure(0)),
                        kindOf(due));
                Check.same("command j" + a + b + ": up", typed.isUp(a), called.isUp(a));
                Check.same("command j" + a + b + ": knows", typed.alive(a), called.alive(a));
            }
            for (int to = 0; to < 4; to++) {
                GossipMembership g = Start.fresh();
                run(g, "p" + a + to);
                for (int node = 0; node < 8; node++) {
                    Check.same("command p" + a + to, g.partition(node), node == a ? to : 0);
                }
            }
            GossipMembership g = Start.fresh();
            for (int node = 0; node < 8; node++) {
                g.join(node, node);
            }
            run(g, "c" + a);
            for (int node = 0; node < 8; node++) {
                Check.same("command c" + a, g.isUp(node), node != a);
            }
        }
        for (int rounds = 1; rounds <= 9; rounds++) {
            GossipMembership g = Start.fresh();
            run(g, "r" + rounds);
            Check.same("command r" + rounds, g.round(), rounds);
        }
    }

    private static String kindOf(String exception) {
        switch (exception) {
            case "IllegalStateException":
                return "2";
            case "IllegalArgumentException":
                return "3";
            default:
                return "NoSuchElementException";
        }
    }

    /** "the first character that cannot continue a command text; .. the length .. if the text ends too early" */
    private static void faultAtEachPlace() {
        String good = "c0;j12;p33;r4;c7;j70;p01;r9;c6";
        for (int place = 0; place < good.length(); place++) {
            for (char bad : new char[] {'!', '/', ':', 'C', 'x', '~'}) {
                GossipMembership g = Start.fresh();
                String text = good.substring(0, place) + bad + good.substring(place + 1);
                Check.raises("fault: " + text, ARGUMENT, () -> run(g, text));
                Check.same("fault: kind in " + text, g.failure(0), 1);
                Check.same("fault: place in " + text, g.failure(1), place);
            }
            GossipMembership early = Start.fresh();
            String text = good.substring(0, place);
            boolean whole = place > 0 && good.charAt(place) == ';';
            String due = whole ? "IllegalStateException" : "IllegalArgumentException";
            Check.same("ends early: " + text, Check.nameOf(() -> run(early, text)), due);
            Check.same("ends early: kind of " + text, early.failure(0), whole ? 2 : 1);
            Check.same("ends early: place in " + text, early.failure(1), whole ? 0 : place);
        }
    }

    /** "A text with a fault is not carried out at all", however far behind the fault is. */
    private static void faultyTextIsNotCarriedOut() {
        String begin = "j11;p23;r5;c0";
        for (String end : new String[] {";", ";r", ";r0", ";c8", ";j7", ";p74", "c1", ";;c1", ";C1", "!"}) {
            GossipMembership typed = Start.two();
            typed.crash(1);
            GossipMembership other = Start.two();
            other.crash(1);
            Check.raises("faulty: " + begin + end, ARGUMENT, () -> run(typed, begin + end));
            Check.same("faulty: no round", typed.round(), 0);
            Check.raises("faulty: an empty one", ARGUMENT, other::runText);
            Check.raises("faulty: an empty one then", ARGUMENT, typed::runText);
            Check.same("faulty: as if nothing was typed", Reading.all(typed), Reading.all(other));
        }
    }

    /** "up to the first one whose method throws an exception, and those before it stay carried out" */
    private static void upToTheFirstThatThrows() {
        String[] bad = {"c7", "j01", "j76"};
        int[] kinds = {2, 2, 3};
        for (int k = 0; k < bad.length; k++) {
            for (int before = 0; before <= 9; before++) {
                GossipMembership g = Start.two();
                String text = "r1;".repeat(before) + bad[k] + ";r9;c7";
                Check.raises("throws: " + text, STATE, () -> run(g, text));
                Check.same("throws: kind in " + text, g.failure(0), kinds[k]);
                Check.same("throws: number in " + text, g.failure(1), before);
                Check.same("throws: rounds in " + text, g.round(), before);
            }
        }
    }

    /** "3 for an IllegalArgumentException of a command": a contact that is down, elsewhere or behind a cut link */
    private static void contactsThatCannotBeReached() {
        for (int reason = 0; reason < 5; reason++) {
            GossipMembership g = Start.two();
            if (reason == 1) {
                g.crash(1);
            } else if (reason == 2) {
                g.move(1, 2);
            } else if (reason == 3) {
                g.move(5, 2);
            } else if (reason == 4) {
                g.cut(1, 5, true);
            }
            Check.same("contact: reason " + reason, Reading.answer(() -> run(g, "p70;j51;j66")),
                    reason == 0 ? "3" : "IllegalStateException");
            Check.same("contact: kind, reason " + reason, Reading.answer(() -> g.failure(0)),
                    reason == 0 ? "NoSuchElementException" : "3");
            Check.same("contact: number, reason " + reason, Reading.answer(() -> g.failure(1)),
                    reason == 0 ? "NoSuchElementException" : "1");
            Check.same("contact: joined, reason " + reason, g.isUp(5), reason == 0);
            Check.same("contact: those behind, reason " + reason, g.isUp(6), reason == 0);
        }
    }

    /** "The text is emptied also if an exception is thrown." */
    private static void emptiedInEachCase() {
        String[] texts = {"r1", "", "x", "r1;", "c7", "r1;c7", fill('c', 40), "p00;".repeat(9) + "p00",
            "r1;".repeat(11) + "c7"};
        for (String text : texts) {
            GossipMembership g = Start.two();
            Start.type(g, text);
            Check.nameOf(g::runText);
            Check.raises("emptied: nothing is left of " + text, ARGUMENT, g::runText);
            Check.same("emptied: the fault of an empty text after " + text, g.failure(1), 0);
            for (int length = 1; length <= 40; length++) {
                Check.same("emptied: room after " + text, g.appendCharacter('c'), length);
            }
        }
    }

    /** "Returns what the latest call of runText met": each kind after each other one */
    private static void failureOfTheLatestCall() {
        String[] texts = {"r1", "r1;x", "r1;c7", "r1;r1;j67"};
        String[] kinds = {"NoSuchElementException", "1", "2", "3"};
        String[] numbers = {"NoSuchElementException", "3", "1", "2"};
        for (int first = 0; first < 4; first++) {
            for (int second = 0; second < 4; second++) {
                GossipMembership g = Start.two();
                Check.raises("failure: no call yet", NoSuchElementException.class, () -> g.failure(0));
                Start.type(g, texts[first]);
                Check.nameOf(g::runText);
                Start.type(g, texts[second]);
                Check.same("failure: of the call before", Reading.answer(() -> g.failure(0)), kinds[first]);
                Check.nameOf(g::runText);
                Check.same("failure: kind", Reading.answer(() -> g.failure(0)), kinds[second]);
                Check.same("failure: number", Reading.answer(() -> g.failure(1)), numbers[second]);
                Check.same("failure: number again", Reading.answer(() -> g.failure(1)), numbers[second]);
                Check.raises("failure: part 2", ARGUMENT, () -> g.failure(2));
                Check.raises("failure: part -1", ARGUMENT, () -> g.failure(-1));
            }
        }
    }

    /** "if nothing was saved" */
    private static void nothingSavedYet() {
        GossipMembership g = Start.two();
        Check.raises("nothing saved", STATE, g::restore);
        g.rounds(3);
        Check.raises("nothing saved still", STATE, g::restore);
        Check.same("nothing saved: nothing changed", g.round(), 3);
        g.save();
        g.rounds(2);
        g.restore();
        Check.same("saved then", g.round(), 3);
        Check.raises("another object saved nothing", STATE, () -> Start.two().restore());
    }

    /** An empty network is saved and restored like others. */
    private static void savedAtFirst() {
        GossipMembership g = Start.fresh();
        g.save();
        for (int node = 0; node < 8; node++) {
            g.join(node, 0);
        }
        g.move(7, 3);
        g.cut(0, 7, true);
        g.setPatience(20);
        g.setFanOut(9);
        g.setHelpers(3);
        g.setSeed(2147483647);
        g.tell(3, 3, Start.DEAD, 1000);
        g.tell(3, 4, Start.SUSPECT, 1000);
        g.rounds(30);
        g.restore();
        GossipMembership saved = Start.fresh();
        saved.save();
        Check.same("saved at first", Reading.all(g), Reading.all(saved));
    }

    /** "Saves everything": all 56 views with their deadlines, all counters, all 28 links */
    private static void savesEachViewAndLink() {
        GossipMembership g = Start.fresh();
        for (int node = 0; node < 8; node++) {
            g.setFanOut(9 - node);
            g.join(node, node);
            for (int other = 0; other < 8; other++) {
                if (other != node) {
                    g.setPatience(1 + (3 * node + other) % 20);
                    g.tell(node, other, Start.SUSPECT, 10 * node + other);
                }
            }
        }
        g.save();
        g.setPatience(20);
        for (int node = 0; node < 8; node++) {
            for (int other = 0; other < 8; other++) {
                if (other != node) {
                    g.tell(node, other, Start.SUSPECT, 1000);
                }
            }
        }
        g.restore();
        for (int node = 0; node < 8; node++) {
            for (int other = 0; other < 8; other++) {
                if (other != node) {
                    String what = "saved: " + node + " of " + other;
                    Check.same(what, g.viewIncarnation(node, other), 10 * node + other);
                    Check.same(what + ", deadline", g.deadline(node, other), 1 + (3 * node + other) % 20);
                    Check.same(what + ", counter", g.counter(node, other), 9 - node);
                }
            }
        }
        savesLinks();
    }

    private static void savesLinks() {
        GossipMembership g = Start.fresh();
        for (int node = 0; node < 8; node++) {
            g.move(node, node % 4);
            for (int other = node + 1; other < 8; other++) {
                g.cut(node, other, (node + other) % 3 == 0);
            }
        }
        g.save();
        for (int node = 0; node < 8; node++) {
            g.move(node, 0);
            for (int other = node + 1; other < 8; other++) {
                g.cut(other, node, (node + other) % 3 != 0);
            }
        }
        g.restore();
        for (int node = 0; node < 8; node++) {
            Check.same("saved: partition of " + node, g.partition(node), node % 4);
            for (int other = node + 1; other < 8; other++) {
                Check.same("saved: link " + node + "-" + other, g.cut(other, node, true), (node + other) % 3 == 0);
            }
        }
    }

    /** "in place of what was saved before"; "It stays saved." */
    private static void savedInPlaceOfTheOne() {
        GossipMembership g = Start.full();
        g.save();
        g.crash(0);
        g.rounds(9);
        g.save();
        String due = "";
        for (int time = 0; time < 3; time++) {
            g.join(0, 0);
            g.setSeed(5);
            g.rounds(11);
            g.restore();
            String now = g.seed() + " " + g.round() + " " + g.isUp(0) + " " + g.view(1, 0) + " " + g.declarations()
                    + " " + g.messages() + " " + g.quietRounds() + " " + g.incarnation(0);
            due = time == 0 ? now : due;
            Check.same("saved: time " + time, now, due);
            Check.same("saved: the second", g.isUp(0), false);
        }
    }

    /** "everything but the text and what the latest call of runText met" */
    private static void textIsNotSaved() {
        GossipMembership g = Start.two();
        Start.type(g, "r");
        g.save();
        g.appendCharacter('2');
        g.restore();
        Check.same("the text is left by restoring", g.runText(), 1);
        g.restore();
        Check.same("an emptied one too", g.appendCharacter('x'), 1);
        Check.nameOf(g::runText);
        g.restore();
        Check.same("what was met is left", g.failure(0), 1);
        g.save();
        Check.same("what was met is left by saving", g.failure(1), 0);
        Start.type(g, "r1");
        g.runText();
        g.restore();
        Check.raises("also that nothing was met", NoSuchElementException.class, () -> g.failure(0));
    }
}

/** Long drawn runs of calls, each answered by the program and by the model alike. */
final class ModelTest {
    private static final int RUNS = 3000;
    private static final int MOST_CALLS = 512;

    private long drawn;
    private GossipMembership g;
    private Model m;
    private StringBuilder told;
    private int calls = 0;

    private ModelTest(long seed) {
        drawn = seed;
    }

    static void run() {
        int wrong = 0;
        for (int k = 0; k < RUNS && wrong < 3; k++) {
            if (!new ModelTest(k * 7919L + 17).oneRun(k % 4)) {
                wrong++;
            }
        }
        Check.same("runs that differ from the model", wrong, 0);
    }

    private int any(int n) {
        drawn = drawn * 6364136223846793005L + 1442695040888963407L;
        return (int) ((drawn >>> 33) % n);
    }

    /** A number from 0 to most, now and then one beside it or far away. */
    private int about(int most) {
        int kind = any(40);
        if (kind == 0) {
            return any(2) == 0 ? -1 : most + 1;
        }
        if (kind == 1) {
            int[] far = {Integer.MIN_VALUE, Integer.MAX_VALUE, -7, 1_000_000};
            return far[any(4)];
        }
        return any(most + 1);
    }

    private boolean oneRun(int style) {
        g = new GossipMembership();
        m = new Model();
        told = new StringBuilder();
        if (style != 0) {
            for (int node = 0; node < 3 + any(6); node++) {
                int joining = node % 8;
                int contact = node == 0 ? 0 : any(joining + 1);
                step("join(" + joining + "," + contact + ")",
                        Reading.answer(() -> g.join(joining, contact)), Reading.answer(() -> m.join(joining, contact)));
            }
        }
        // A typed text takes up to some 14 calls, and all of them stay within what is promised.
        while (calls < MOST_CALLS - 16) {
            boolean good;
            int kind = any(100);
            if (kind < 30) {
                good = act();
            } else if (kind < 45) {
                good = type();
            } else {
                good = look();
            }
            if (!good) {
                System.out.println("wrong run:" + told);
                return false;
            }
        }
        return true;
    }

    private boolean step(String call, String got, String want) {
        calls++;
        told.append('\n').append(call).append(" -> ").append(got);
        if (!got.equals(want)) {
            told.append(", due is ").append(want);
            return false;
        }
        return true;
    }

    private boolean act() {
        int a = about(7);
        int b = about(7);
        int small = about(3);
        switch (any(20)) {
            case 0: {
                int v = 1 + about(19);
                return step("setPatience(" + v + ")",
                        Reading.answer(() -> g.setPatience(v)), Reading.answer(() -> m.setPatience(v)));
            }
            case 1: {
                int v = 1 + about(8);
                return step("setFanOut(" + v + ")",
                        Reading.answer(() -> g.setFanOut(v)), Reading.answer(() -> m.setFanOut(v)));
            }
            case 2:
                return step("setHelpers(" + small + ")",
                        Reading.answer(() -> g.setHelpers(small)), Reading.answer(() -> m.setHelpers(small)));
            case 3: {
                int v = any(10) == 0 ? Integer.MAX_VALUE : about(5000) * 400_000;
                return step("setSeed(" + v + ")",
                        Reading.answer(() -> g.setSeed(v)), Reading.answer(() -> m.setSeed(v)));
            }
            case 4:
            case 5:
            case 6:
                return step("join(" + a + "," + b + ")",
                        Reading.answer(() -> g.join(a, b)), Reading.answer(() -> m.join(a, b)));
            case 7:
                return step("crash(" + a + ")", Reading.answer(() -> g.crash(a)), Reading.answer(() -> m.crash(a)));
            case 8: {
                int v = any(2) == 0 ? 0 : small;
                return step("move(" + a + "," + v + ")",
                        Reading.answer(() -> g.move(a, v)), Reading.answer(() -> m.move(a, v)));
            }
            case 9:
            case 10: {
                boolean on = any(3) == 0;
                return step("cut(" + a + "," + b + "," + on + ")",
                        Reading.answer(() -> g.cut(a, b, on)), Reading.answer(() -> m.cut(a, b, on)));
            }
            case 11:
            case 12: {
                int v = 1 + about(any(5) == 0 ? 49 : 3);
                return step("rounds(" + v + ")", Reading.answer(() -> g.rounds(v)), Reading.answer(() -> m.rounds(v)));
            }
            case 13: {
                int v = 1 + about(any(5) == 0 ? 99 : 9);
                return step("roundsUntilAgreement(" + v + ")", Reading.answer(() -> g.roundsUntilAgreement(v)),
                        Reading.answer(() -> m.roundsUntilAgreement(v)));
            }
            case 14:
            case 15:
            case 16:
            case 17: {
                int state = 1 + about(2);
                int incarnation = any(8) == 0 ? about(1000) : about(4);
                return step("tell(" + a + "," + b + "," + state + "," + incarnation + ")",
                        Reading.answer(() -> g.tell(a, b, state, incarnation)),
                        Reading.answer(() -> m.tell(a, b, state, incarnation)));
            }
            case 18:
                g.save();
                m.save();
                return step("save()", "", "");
            default:
                if (any(3) != 0) {
                    return true;
                }
                return step("restore()", Check.nameOf(g::restore), Check.nameOf(m::restore));
        }
    }

    /** Types and runs a text that is now and then faulty, or types on. */
    private boolean type() {
        StringBuilder text = new StringBuilder();
        int commands = 1 + any(3);
        for (int k = 0; k < commands; k++) {
            text.append(k == 0 ? "" : ";");
            switch (any(4)) {
                case 0 -> text.append('c').append(any(8));
                case 1 -> text.append('j').append(any(8)).append(any(8));
                case 2 -> text.append('p').append(any(8)).append(any(2) * any(4));
                default -> text.append('r').append(1 + any(9));
            }
        }
        if (any(3) == 0) {
            String signs = "cjpr;;0123456789!~Cx/:";
            text.insert(any(text.length() + 1), signs.charAt(any(signs.length())));
        }
        if (any(6) == 0) {
            text.setLength(any(text.length() + 1));
        }
        for (int k = 0; k < text.length(); k++) {
            int sign = any(60) == 0 ? about(130) : text.charAt(k);
            if (!step("appendCharacter(" + sign + ")",
                    Reading.answer(() -> g.appendCharacter(sign)), Reading.answer(() -> m.appendCharacter(sign)))) {
                return false;
            }
        }
        return any(10) == 0 || step("runText() of " + text, Reading.answer(g::runText), Reading.answer(m::runText));
    }

    private boolean look() {
        int a = about(7);
        int b = about(7);
        switch (any(21)) {
            case 0:
                return step("seed()", Reading.answer(g::seed), Reading.answer(m::seed));
            case 1:
                return step("round()", Reading.answer(g::round), Reading.answer(m::round));
            case 2:
                return step("isUp(" + a + ")", Reading.answer(() -> g.isUp(a)), Reading.answer(() -> m.isUp(a)));
            case 3:
                return step("partition(" + a + ")",
                        Reading.answer(() -> g.partition(a)), Reading.answer(() -> m.partition(a)));
            case 4:
                return step("incarnation(" + a + ")",
                        Reading.answer(() -> g.incarnation(a)), Reading.answer(() -> m.incarnation(a)));
            case 5:
                return step("reaches(" + a + "," + b + ")",
                        Reading.answer(() -> g.reaches(a, b)), Reading.answer(() -> m.reaches(a, b)));
            case 6:
                return step("view(" + a + "," + b + ")",
                        Reading.answer(() -> g.view(a, b)), Reading.answer(() -> m.view(a, b)));
            case 7:
                return step("viewIncarnation(" + a + "," + b + ")",
                        Reading.answer(() -> g.viewIncarnation(a, b)), Reading.answer(() -> m.viewIncarnation(a, b)));
            case 8:
                return step("deadline(" + a + "," + b + ")",
                        Reading.answer(() -> g.deadline(a, b)), Reading.answer(() -> m.deadline(a, b)));
            case 9:
                return step("counter(" + a + "," + b + ")",
                        Reading.answer(() -> g.counter(a, b)), Reading.answer(() -> m.counter(a, b)));
            case 10:
                return step("alive(" + a + ")", Reading.answer(() -> g.alive(a)), Reading.answer(() -> m.alive(a)));
            case 11:
                return step("agree()", Reading.answer(g::agree), Reading.answer(m::agree));
            case 12:
                return step("disagreements()", Reading.answer(g::disagreements), Reading.answer(m::disagreements));
            case 13:
                return step("declarations()", Reading.answer(g::declarations), Reading.answer(m::declarations));
            case 14:
                return step("falseDeclarations()",
                        Reading.answer(g::falseDeclarations), Reading.answer(m::falseDeclarations));
            case 15:
                return step("refutations()", Reading.answer(g::refutations), Reading.answer(m::refutations));
            case 16:
                return step("messages()", Reading.answer(g::messages), Reading.answer(m::messages));
            case 17:
                return step("quietRounds()", Reading.answer(g::quietRounds), Reading.answer(m::quietRounds));
            case 18: {
                int part = about(1);
                return step("failure(" + part + ")",
                        Reading.answer(() -> g.failure(part)), Reading.answer(() -> m.failure(part)));
            }
            case 19:
                return step("averageCounter(" + a + ")",
                        Reading.answer(() -> g.averageCounter(a)), Reading.answer(() -> m.averageCounter(a)));
            default:
                return step("falseShare()", Reading.answer(g::falseShare), Reading.answer(m::falseShare));
        }
    }
}

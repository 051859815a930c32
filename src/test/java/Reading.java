import java.util.function.Supplier;

/**
 * Reads all that an object answers, as one text. It uses up the object: what no method just tells,
 * such as the cut links and the text, is read by calls that change it. It takes some 320 calls,
 * so that an object has some 190 calls before it.
 */
final class Reading {
    private Reading() {
    }

    static String all(GossipMembership g) {
        StringBuilder out = new StringBuilder();
        measures(g, out);
        for (int node = 0; node < 8; node++) {
            oneNode(g, node, out);
        }
        hidden(g, out);
        return out.toString();
    }

    /** Reads all that an object has saved, or that it saved nothing. */
    static String saved(GossipMembership g) {
        return Check.nameOf(g::restore) + '\n' + all(g);
    }

    private static void measures(GossipMembership g, StringBuilder out) {
        out.append("seed ").append(g.seed());
        out.append(" round ").append(g.round());
        out.append(" agree ").append(g.agree());
        out.append(" disagreements ").append(g.disagreements());
        out.append(" declarations ").append(g.declarations());
        out.append(" false ").append(g.falseDeclarations());
        out.append(" refutations ").append(g.refutations());
        out.append(" messages ").append(g.messages());
        out.append(" quiet ").append(g.quietRounds());
        out.append(" failure ").append(answer(() -> g.failure(0)));
        out.append(' ').append(answer(() -> g.failure(1))).append('\n');
    }

    private static void oneNode(GossipMembership g, int node, StringBuilder out) {
        out.append(node).append(" up ").append(g.isUp(node));
        out.append(" partition ").append(g.partition(node));
        out.append(" incarnation ").append(g.incarnation(node));
        out.append(" own counter ").append(g.counter(node, node)).append(':');
        for (int other = 0; other < 8; other++) {
            if (other != node) {
                int to = other;
                out.append(' ').append(other).append('=').append(g.view(node, other));
                out.append('/').append(g.viewIncarnation(node, other));
                out.append('/').append(answer(() -> g.deadline(node, to)));
                out.append('/').append(g.counter(node, other));
            }
        }
        out.append('\n');
    }

    private static void hidden(GossipMembership g, StringBuilder out) {
        out.append("patience ").append(g.setPatience(1));
        out.append(" fan-out ").append(g.setFanOut(1));
        out.append(" helpers ").append(g.setHelpers(0));
        out.append(" cut");
        for (int node = 0; node < 8; node++) {
            for (int other = node + 1; other < 8; other++) {
                if (g.cut(node, other, true)) {
                    out.append(' ').append(node).append('-').append(other);
                }
            }
        }
        out.append(" joining");
        for (int node = 0; node < 8; node++) {
            int joining = node;
            out.append(' ').append(answer(() -> g.join(joining, joining)));
        }
        out.append(" text ").append(answer(() -> g.appendCharacter('r')));
        out.append(' ').append(answer(g::runText));
        out.append(' ').append(answer(() -> g.failure(0))).append(' ').append(answer(() -> g.failure(1)));
        out.append(" restoring ").append(Check.nameOf(g::restore));
        out.append(" seed ").append(g.seed()).append(" round ").append(g.round()).append('\n');
    }

    /** What a call answers: its value, or the name of what it throws. */
    static String answer(Supplier<Object> call) {
        try {
            return String.valueOf(call.get());
        } catch (RuntimeException thrown) {
            return thrown.getClass().getSimpleName();
        }
    }
}

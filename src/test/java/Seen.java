import java.util.function.Supplier;
import java.util.function.ToIntFunction;

/**
 * All that can be seen of an object: its links, its history, its snapshot and its text. What is
 * asked for changes an object, so each part is asked of one made anew by the same calls.
 */
final class Seen {
    /** One more than a history can have. */
    private static final int UNDONE = 5;

    private Seen() {
    }

    static String of(Supplier<LivedLinks> made) {
        StringBuilder seen = new StringBuilder();
        LivedLinks x = made.get();
        seen.append("states ").append(x.count(7)).append(" length ").append(x.count(8)).append(" now");
        addLinks(seen, x);
        for (int undone = 1; undone <= UNDONE; undone++) {
            addHistory(seen, made.get(), undone);
        }
        addSnapshot(seen, made.get());
        addText(seen, made.get());
        return seen.toString();
    }

    private static void addLinks(StringBuilder seen, LivedLinks x) {
        int links = x.count(0);
        for (int link = 0; link < links; link++) {
            seen.append(' ').append(x.link(link, 0)).append('-').append(x.link(link, 1))
                .append('@').append(x.link(link, 2)).append(':').append(x.link(link, 3));
        }
    }

    private static void addHistory(StringBuilder seen, LivedLinks x, int undone) {
        seen.append("\nundo");
        for (int turn = 0; turn < undone; turn++) {
            seen.append(' ').append(x.undo());
        }
        addLinks(seen, x);
    }

    private static void addSnapshot(StringBuilder seen, LivedLinks x) {
        seen.append("\nrestore ").append(x.restore());
        addLinks(seen, x);
    }

    /** What the text tells when there is room for its links, and which length one more has. */
    private static void addText(StringBuilder seen, LivedLinks x) {
        for (int link = x.count(0) - 1; link >= 0; link--) {
            x.removeLink(link);
        }
        seen.append("\ntext ").append(x.readLinks());
        addLinks(seen, x);
        seen.append(" then ").append(x.type(',')).append(' ').append(x.readLinks());
    }

    /** A call answers what is due, and nothing is changed by it. */
    static void leaves(Check check, String call, Supplier<LivedLinks> made, ToIntFunction<LivedLinks> calls, int want) {
        check.due(call, calls.applyAsInt(made.get()), want);
        String before = of(made);
        String behind = of(() -> {
            LivedLinks x = made.get();
            calls.applyAsInt(x);
            return x;
        });
        if (!before.equals(behind)) {
            System.out.println("ahead of " + call + ": " + before + "\nbehind it: " + behind);
        }
        check.holds(call + " changes nothing", before.equals(behind));
    }
}

import java.util.function.Supplier;

/**
 * Each argument of each promise: the ends of its range, one below and one above it, the least and
 * the greatest int, and all of these with those of the other arguments. The answer is the first
 * error of the @return line that applies, and an error changes nothing.
 */
public final class ArgumentsTest {
    private static final int UNKNOWN = LivedLinks.UNKNOWN;
    private static final int BAD_VALUE = LivedLinks.BAD_VALUE;
    private static final int FULL = LivedLinks.FULL;
    private static final int NOT_POSSIBLE = LivedLinks.NOT_POSSIBLE;
    private static final int NONE = LivedLinks.NONE;
    /** Due is an answer that is no error, and not NONE. */
    private static final int ANSWER = 0;

    private static final int[] POINTS = edges(0, 15);
    private static final int[] MOMENTS = edges(0, 63);
    private static final int[] LINKS_OF_SOME = edges(0, 4);
    private static final int[] LINKS_OF_FULL = edges(0, 39);

    private static final Check CHECK = new Check("ArgumentsTest");

    private interface Call {
        int of(LivedLinks x, int[] told);
    }

    private interface Due {
        int of(int[] told);
    }

    public static void main(String[] args) {
        Supplier<LivedLinks> some = Ways::some;
        Supplier<LivedLinks> full = Ways::full;
        promise2AddLink(some, ANSWER);
        promise2AddLink(full, FULL);
        promise3RemoveLink();
        promise4SetLife();
        promise5Cut();
        promise7Clear();
        promise13Link();
        promise14Joined();
        promise15Moment();
        promise16Part();
        promise17Needed();
        promise18Together();
        promise19Odd();
        promise20Span();
        promise21Count();
        withoutAnyLink();
        CHECK.close();
    }

    /** The ends of a range, what lies one beside them, the least and the greatest int, and more. */
    private static int[] edges(int least, int greatest, int... more) {
        int[] edges = {Integer.MIN_VALUE, Integer.MIN_VALUE + 1, least - 1, least, greatest, greatest + 1,
            Integer.MAX_VALUE - 1, Integer.MAX_VALUE};
        int[] all = java.util.Arrays.copyOf(edges, edges.length + more.length);
        System.arraycopy(more, 0, all, edges.length, more.length);
        return all;
    }

    private static boolean in(int value, int least, int greatest) {
        return value >= least && value <= greatest;
    }

    private static boolean isPoint(int point) {
        return in(point, 0, 15);
    }

    private static boolean isMoment(int moment) {
        return in(moment, 0, 63);
    }

    /** Makes the call with all values of all arguments, each of them on an object of its own. */
    private static void sweep(String name, Supplier<LivedLinks> made, Call call, Due due, int[]... values) {
        int[] told = new int[values.length];
        sweepFrom(0, told, name, made, call, due, values);
    }

    private static void sweepFrom(int argument, int[] told, String name, Supplier<LivedLinks> made, Call call, Due due,
            int[]... values) {
        if (argument == told.length) {
            one(name + java.util.Arrays.toString(told), made, call, due.of(told), told.clone());
            return;
        }
        for (int value : values[argument]) {
            told[argument] = value;
            sweepFrom(argument + 1, told, name, made, call, due, values);
        }
    }

    private static void one(String name, Supplier<LivedLinks> made, Call call, int want, int[] told) {
        if (want < ANSWER) {
            Seen.leaves(CHECK, name, made, x -> call.of(x, told), want);
        } else {
            CHECK.holds(name + " is answered", call.of(made.get(), told) >= 0);
        }
    }

    private static void promise2AddLink(Supplier<LivedLinks> made, int otherwise) {
        int[] points = {Integer.MIN_VALUE, -1, 0, 15, 16, Integer.MAX_VALUE};
        int[] begins = {Integer.MIN_VALUE, -1, 0, 63, 64, Integer.MAX_VALUE, 31};
        int[] ends = {Integer.MIN_VALUE, 0, 1, 64, 65, Integer.MAX_VALUE, 31, 32};
        sweep("addLink", made, (x, told) -> x.addLink(told[0], told[1], told[2], told[3]), told -> {
            if (!isPoint(told[0]) || !isPoint(told[1])) {
                return UNKNOWN;
            }
            boolean life = isMoment(told[2]) && in(told[3], 1, 64) && told[3] > told[2];
            return told[0] == told[1] || !life ? BAD_VALUE : otherwise;
        }, points, points, begins, ends);
    }

    private static void promise3RemoveLink() {
        sweep("removeLink", Ways::some, (x, told) -> x.removeLink(told[0]),
            told -> in(told[0], 0, 4) ? ANSWER : UNKNOWN, LINKS_OF_SOME);
        sweep("removeLink of 40", Ways::full, (x, told) -> x.removeLink(told[0]),
            told -> in(told[0], 0, 39) ? ANSWER : UNKNOWN, LINKS_OF_FULL);
    }

    /** The first link of some() lives from 0 to 64, and the last one from 12 to 14. */
    private static void promise4SetLife() {
        sweep("setLife", Ways::some, (x, told) -> x.setLife(told[0], told[1], told[2]), told -> {
            if (!in(told[0], 0, 4)) {
                return UNKNOWN;
            }
            if (!isMoment(told[1]) || !in(told[2], 1, 64) || told[2] <= told[1]) {
                return BAD_VALUE;
            }
            boolean same = told[0] == 0 ? told[1] == 0 && told[2] == 64 : told[1] == 12 && told[2] == 14;
            return same ? NONE : ANSWER;
        }, LINKS_OF_SOME, edges(0, 63, 12, 13, 14), edges(1, 64, 12, 13, 14));
    }

    private static int cutDue(int[] told, int links, boolean inside, int otherwise) {
        if (!in(told[0], 0, links - 1)) {
            return UNKNOWN;
        }
        if (!isMoment(told[1])) {
            return BAD_VALUE;
        }
        return inside ? otherwise : NOT_POSSIBLE;
    }

    private static void promise5Cut() {
        sweep("cut", Ways::some, (x, told) -> x.cut(told[0], told[1]),
            told -> cutDue(told, 5, told[0] == 0 ? told[1] > 0 : told[1] == 13, ANSWER),
            LINKS_OF_SOME, edges(0, 63, 1, 62, 11, 12, 13, 14, 15));
        // Of 40, the first one lives from 0 to 20, and the last one from 62 to 64.
        sweep("cut of 40", Ways::full, (x, told) -> x.cut(told[0], told[1]),
            told -> cutDue(told, 40, told[0] == 0 ? in(told[1], 1, 19) : told[1] == 63, FULL),
            LINKS_OF_FULL, edges(0, 63, 1, 19, 20, 61, 62));
    }

    /** In emptied(), no link lives at any moment; in undone(), two live at 0, and none from 2 on. */
    private static void promise7Clear() {
        sweep("clear", Ways::some, (x, told) -> x.clear(told[0]), told -> isMoment(told[0]) ? ANSWER : UNKNOWN, MOMENTS);
        sweep("clear of none", Ways::emptied, (x, told) -> x.clear(told[0]),
            told -> isMoment(told[0]) ? NONE : UNKNOWN, edges(0, 63, 9, 30));
        sweep("clear of early ones", Ways::undone, (x, told) -> x.clear(told[0]),
            told -> !isMoment(told[0]) ? UNKNOWN : told[0] < 2 ? ANSWER : NONE, edges(0, 63, 1, 2));
    }

    private static int whatDue(boolean known, int what, int greatest) {
        if (!known) {
            return UNKNOWN;
        }
        return in(what, 0, greatest) ? ANSWER : BAD_VALUE;
    }

    private static void promise13Link() {
        sweep("link", Ways::some, (x, told) -> x.link(told[0], told[1]),
            told -> whatDue(in(told[0], 0, 4), told[1], 5), LINKS_OF_SOME, edges(0, 5, 1, 2, 3, 4));
        sweep("link of 40", Ways::full, (x, told) -> x.link(told[0], told[1]),
            told -> whatDue(in(told[0], 0, 39), told[1], 5), LINKS_OF_FULL, edges(0, 5, 1, 2, 3, 4));
    }

    private static void promise14Joined() {
        sweep("joined", Ways::some, (x, told) -> x.joined(told[0], told[1], told[2]),
            told -> isMoment(told[0]) && isPoint(told[1]) && isPoint(told[2]) ? ANSWER : UNKNOWN,
            MOMENTS, POINTS, POINTS);
    }

    private static void promise15Moment() {
        sweep("moment", Ways::some, (x, told) -> x.moment(told[0], told[1]),
            told -> whatDue(isMoment(told[0]), told[1], 5), MOMENTS, edges(0, 5, 1, 2, 3, 4));
    }

    private static void promise16Part() {
        sweep("part", Ways::some, (x, told) -> x.part(told[0], told[1], told[2]),
            told -> whatDue(isMoment(told[0]) && isPoint(told[1]), told[2], 2), MOMENTS, POINTS, edges(0, 2, 1));
    }

    /** The first link lives always, the last one at 12 and 13. */
    private static void promise17Needed() {
        sweep("needed", Ways::some, (x, told) -> x.needed(told[0], told[1]), told -> {
            if (!in(told[0], 0, 4) || !isMoment(told[1])) {
                return UNKNOWN;
            }
            return told[0] == 0 || in(told[1], 12, 13) ? ANSWER : NONE;
        }, LINKS_OF_SOME, edges(0, 63, 11, 12, 13, 14));
    }

    /** Points 0 and 15 are always joined; 7 is joined with no other one. */
    private static void promise18Together() {
        sweep("together", Ways::some, (x, told) -> x.together(told[0], told[1], told[2]), told -> {
            int due = whatDue(isPoint(told[0]) && isPoint(told[1]), told[2], 4);
            boolean never = (told[0] == 7) != (told[1] == 7);
            boolean needsOne = told[2] == 1 || told[2] == 2 || told[2] == 4;
            return due == ANSWER && never && needsOne ? NONE : due;
        }, edges(0, 15, 7), edges(0, 15, 7), edges(0, 4, 1, 2, 3));
    }

    /** Three links make a ring at 12 and 13. */
    private static void promise19Odd() {
        sweep("odd", Ways::some, (x, told) -> x.odd(told[0]),
            told -> !isMoment(told[0]) ? UNKNOWN : told[0] <= 13 ? ANSWER : NONE, edges(0, 63, 12, 13, 14));
        sweep("odd without a ring", Ways::fresh, (x, told) -> x.odd(told[0]),
            told -> isMoment(told[0]) ? NONE : UNKNOWN, MOMENTS);
    }

    private static void promise20Span() {
        sweep("span", Ways::some, (x, told) -> x.span(told[0], told[1], told[2]),
            told -> whatDue(isMoment(told[0]), in(told[1], 0, 6) ? told[2] : -1, 4),
            MOMENTS, edges(0, 6, 1, 5, 31, 32, 33, 64), edges(0, 4, 1, 2, 3));
    }

    private static void promise21Count() {
        sweep("count", Ways::some, (x, told) -> x.count(told[0]),
            told -> in(told[0], 0, 8) ? ANSWER : BAD_VALUE, edges(0, 8, 1, 2, 3, 4, 5, 6, 7));
    }

    /** Without links, no number is a link's, whatever stands beside it. */
    private static void withoutAnyLink() {
        int[] links = {Integer.MIN_VALUE, -1, 0, 1, Integer.MAX_VALUE};
        int[] values = {Integer.MIN_VALUE, -1, 0, 1, 64, Integer.MAX_VALUE};
        sweep("removeLink of none", Ways::emptied, (x, told) -> x.removeLink(told[0]), told -> UNKNOWN, links);
        sweep("setLife of none", Ways::emptied, (x, told) -> x.setLife(told[0], told[1], told[2]), told -> UNKNOWN,
            links, values, values);
        sweep("cut of none", Ways::emptied, (x, told) -> x.cut(told[0], told[1]), told -> UNKNOWN, links, values);
        sweep("link of none", Ways::emptied, (x, told) -> x.link(told[0], told[1]), told -> UNKNOWN, links, values);
        sweep("needed of none", Ways::emptied, (x, told) -> x.needed(told[0], told[1]), told -> UNKNOWN, links, values);
    }
}

/** Promise 20, and of 13 and 21 what is a matter of the way by halves. */
public final class HalvesTest {
    private static final int UNKNOWN = LivedLinks.UNKNOWN;
    private static final int BAD_VALUE = LivedLinks.BAD_VALUE;

    private static final Check CHECK = new Check("HalvesTest");

    public static void main(String[] args) {
        promise20Wrong();
        promise20Bounds();
        promise20Laid();
        promise20Around();
        promise20OrderOfNumbers();
        promise21Way();
        promise21Standing();
        CHECK.close();
    }

    private static void due(String call, long got, long want) {
        CHECK.due(call, got, want);
    }

    private static void promise20Wrong() {
        LivedLinks x = CHECK.with(Check.link(0, 1, 0, 64));
        due("span: moment -1", x.span(-1, 0, 0), UNKNOWN);
        due("span: moment 64", x.span(64, 0, 0), UNKNOWN);
        due("span: unknown first", x.span(64, 7, 5), UNKNOWN);
        due("span: depth -1", x.span(0, -1, 0), BAD_VALUE);
        due("span: depth 7", x.span(0, 7, 0), BAD_VALUE);
        due("span: greatest depth", x.span(0, Integer.MAX_VALUE, 0), BAD_VALUE);
        due("span: what -1", x.span(0, 0, -1), BAD_VALUE);
        due("span: what 5", x.span(0, 0, 5), BAD_VALUE);
    }

    private static void promise20Bounds() {
        LivedLinks x = new LivedLinks();
        for (int depth = 0; depth <= 6; depth++) {
            int length = 64;
            for (int half = 0; half < depth; half++) {
                length /= 2;
            }
            for (int moment = 0; moment < 64; moment++) {
                due("span begin", x.span(moment, depth, 0), moment / length * length);
                due("span length", x.span(moment, depth, 1), length);
            }
        }
    }

    /** Each life of all: the spans at which its link is laid cover just it, and none is half of another. */
    private static void promise20Laid() {
        for (int from = 0; from < 64; from += 3) {
            for (int to = from + 1; to <= 64; to += 2) {
                LivedLinks x = CHECK.with(Check.link(3, 4, from, to));
                int spans = 0;
                for (int moment = 0; moment < 64; moment++) {
                    int laid = 0;
                    for (int depth = 0; depth <= 6; depth++) {
                        int here = x.span(moment, depth, 2);
                        laid += here;
                        spans += x.span(moment, depth, 0) == moment ? here : 0;
                    }
                    due("laid over " + moment, laid, from <= moment && moment < to ? 1 : 0);
                }
                due("laid spans of " + from + " to " + to, x.link(0, 4), spans);
                due("made of " + from + " to " + to, x.count(1), spans);
                due("idle of " + from + " to " + to, x.count(2), 0);
                due("standing of " + from + " to " + to, x.count(3), 1);
            }
        }
    }

    private static void spanIs(LivedLinks x, int moment, int depth, int laid, int made, int idle) {
        due("span(" + moment + ", " + depth + ", 2)", x.span(moment, depth, 2), laid);
        due("span(" + moment + ", " + depth + ", 3)", x.span(moment, depth, 3), made);
        due("span(" + moment + ", " + depth + ", 4)", x.span(moment, depth, 4), idle);
    }

    private static void promise20Around() {
        LivedLinks x = CHECK.with(Check.link(0, 1, 0, 64), Check.link(1, 2, 0, 32), Check.link(0, 2, 0, 16),
            Check.link(2, 0, 32, 48), Check.link(2, 1, 32, 40), Check.link(5, 6, 16, 32), Check.link(6, 5, 20, 21));
        spanIs(x, 0, 0, 1, 1, 0);
        spanIs(x, 63, 0, 1, 1, 0);
        spanIs(x, 0, 1, 1, 1, 0);
        spanIs(x, 32, 1, 0, 0, 0);
        spanIs(x, 0, 2, 1, 0, 1);
        spanIs(x, 16, 2, 1, 1, 0);
        spanIs(x, 20, 6, 1, 0, 1);
        spanIs(x, 21, 6, 0, 0, 0);
        spanIs(x, 32, 2, 1, 1, 0);
        spanIs(x, 39, 3, 1, 0, 1);
        spanIs(x, 40, 3, 0, 0, 0);
        spanIs(x, 48, 2, 0, 0, 0);
        // What was asked of another span last is no matter.
        spanIs(x, 39, 3, 1, 0, 1);
        spanIs(x, 16, 2, 1, 1, 0);
    }

    private static void promise20OrderOfNumbers() {
        LivedLinks x = CHECK.with(Check.link(0, 1, 8, 16), Check.link(1, 2, 8, 16), Check.link(0, 2, 8, 16),
            Check.link(1, 0, 8, 16), Check.link(3, 2, 8, 16));
        spanIs(x, 15, 3, 5, 3, 2);
        due("order: made", x.count(1), 3);
        due("order: idle", x.count(2), 2);
        due("order: standing", x.count(3), 3);
    }

    private static void promise21Way() {
        LivedLinks x = CHECK.with(Check.link(0, 1, 0, 64), Check.link(1, 2, 0, 32), Check.link(0, 2, 0, 16),
            Check.link(2, 0, 32, 48), Check.link(2, 1, 32, 40), Check.link(5, 6, 16, 32), Check.link(6, 5, 20, 21));
        due("way: made", x.count(1), 4);
        due("way: idle", x.count(2), 3);
        due("way: standing", x.count(3), 3);
        due("way: again", x.count(1), 4);
        due("way: a span between", x.span(39, 3, 4), 1);
        due("way: and again", x.count(2), 3);
        due("way: a life of ten spans", x.addLink(9, 10, 1, 63), 7);
        due("way: made then", x.count(1), 14);
        due("way: standing then", x.count(3), 4);
        for (int link = 7; link > 1; link--) {
            due("way: remove", x.removeLink(link), link);
        }
        due("way: standing of two", x.count(3), 2);
        due("way: remove", x.removeLink(0), 1);
        due("way: standing of one", x.count(3), 1);
        due("way: remove", x.removeLink(0), 0);
        due("way: standing of none", x.count(3), 0);
    }

    /** The most that stand at a time are taken back: links that live one behind the other never add up. */
    private static void promise21Standing() {
        LivedLinks x = new LivedLinks();
        for (int point = 0; point < 15; point++) {
            x.addLink(point, point + 1, point * 4, point * 4 + 4);
        }
        due("standing: made", x.count(1), 15);
        due("standing: at most", x.count(3), 1);
        x.addLink(0, 15, 0, 64);
        due("standing: made with the whole time", x.count(1), 16);
        due("standing: at most with the whole time", x.count(3), 2);
        LivedLinks all = new LivedLinks();
        for (int point = 0; point < 15; point++) {
            all.addLink(point, point + 1, point, 64);
        }
        due("standing: all", all.count(3), 15);
        due("standing: fewest parts", all.count(6), 1);
    }
}

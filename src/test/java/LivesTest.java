/**
 * Every life that there can be, from 0 to 63 and up to ahead of 1 to 64: what each promise does
 * and tells at both ends of it, and one moment beside them.
 */
public final class LivesTest {
    private static final int BAD_VALUE = LivedLinks.BAD_VALUE;
    private static final int NOT_POSSIBLE = LivedLinks.NOT_POSSIBLE;
    private static final int NONE = LivedLinks.NONE;

    private static final Check CHECK = new Check("LivesTest");

    public static void main(String[] args) {
        for (int from = -1; from <= 65; from++) {
            for (int to = -1; to <= 66; to++) {
                if (from < 0 || from > 63 || to < 1 || to > 64 || to <= from) {
                    isNoLife(from, to);
                } else {
                    livesJustThen(from, to);
                    setAgain(from, to);
                    cutAtEachMoment(from, to);
                    clearedAtEachMoment(from, to);
                    isToldOfTogether(from, to);
                    isOddJustThen(from, to);
                    isLaidAtSpans(from, to);
                }
            }
        }
        rowsOfTwoLives();
        CHECK.close();
    }

    private static void due(String call, long got, long want) {
        CHECK.due(call, got, want);
    }

    private static LivedLinks with(int from, int to) {
        LivedLinks x = new LivedLinks();
        due("addLink from " + from + " to " + to, x.addLink(0, 15, from, to), 0);
        return x;
    }

    private static boolean in(int moment, int from, int to) {
        return moment >= from && moment < to;
    }

    private static void isNoLife(int from, int to) {
        LivedLinks x = with(7, 9);
        due("addLink from " + from + " to " + to, x.addLink(0, 15, from, to), BAD_VALUE);
        due("setLife from " + from + " to " + to, x.setLife(0, from, to), BAD_VALUE);
        due("no life: links", x.count(0), 1);
        due("no life: states", x.count(7), 1);
        due("no life: from", x.link(0, 2), 7);
        due("no life: to", x.link(0, 3), 9);
    }

    private static void livesJustThen(int from, int to) {
        LivedLinks x = with(from, to);
        String life = from + " to " + to + ": ";
        for (int moment = 0; moment < 64; moment++) {
            int lives = in(moment, from, to) ? 1 : 0;
            due(life + "moment(" + moment + ", 0)", x.moment(moment, 0), lives);
            due(life + "joined(" + moment + ", 15, 0)", x.joined(moment, 15, 0), lives);
            due(life + "part(" + moment + ", 15, 0)", x.part(moment, 15, 0), 15 - 15 * lives);
            due(life + "needed(0, " + moment + ")", x.needed(0, moment), lives == 1 ? 1 : NONE);
            due(life + "moment(" + moment + ", 5)", x.moment(moment, 5), 16 - 2 * lives);
        }
        due(life + "needed moments", x.link(0, 5), to - from);
        due(life + "most parts", x.count(5), to - from == 64 ? 15 : 16);
        due(life + "fewest parts", x.count(6), 15);
    }

    private static void setAgain(int from, int to) {
        LivedLinks x = with(from, to);
        due("the same life", x.setLife(0, from, to), NONE);
        due("the same life: states", x.count(7), 1);
        boolean early = from == 0 && to == 1;
        due("the first life", x.setLife(0, 0, 1), early ? NONE : 1);
        due("back from it", x.setLife(0, from, to), early ? NONE : to - from);
        due("back: from", x.link(0, 2), from);
        due("back: to", x.link(0, 3), to);
        due("back: states", x.count(7), early ? 1 : 3);
        due("undo", x.undo(), early ? 0 : 2);
        due("undone: links", x.count(0), early ? 0 : 1);
    }

    private static void cutAtEachMoment(int from, int to) {
        for (int moment = 0; moment < 64; moment++) {
            LivedLinks x = with(from, to);
            String cut = from + " to " + to + ": cut(0, " + moment + ")";
            if (moment > from && moment < to) {
                due(cut, x.cut(0, moment), 1);
                CHECK.hasLinks(cut, x, Check.link(0, 15, from, moment), Check.link(0, 15, moment, to));
            } else {
                due(cut, x.cut(0, moment), NOT_POSSIBLE);
                CHECK.hasLinks(cut, x, Check.link(0, 15, from, to));
            }
        }
    }

    private static void clearedAtEachMoment(int from, int to) {
        for (int moment = 0; moment < 64; moment++) {
            LivedLinks x = with(from, to);
            boolean lives = in(moment, from, to);
            String clear = from + " to " + to + ": clear(" + moment + ")";
            due(clear, x.clear(moment), lives ? 1 : NONE);
            due(clear + ": links", x.count(0), lives ? 0 : 1);
            due(clear + ": states", x.count(7), lives ? 2 : 1);
        }
    }

    private static void isToldOfTogether(int from, int to) {
        LivedLinks x = with(from, to);
        int[] want = {to - from, from, to - 1, to - from, from};
        for (int what = 0; what < want.length; what++) {
            due(from + " to " + to + ": together(15, 0, " + what + ")", x.together(15, 0, what), want[what]);
        }
    }

    /** A ring of three, of which one link alone lives from then to then. */
    private static void isOddJustThen(int from, int to) {
        LivedLinks x = CHECK.with(Check.link(0, 1, 0, 64), Check.link(1, 2, 0, 64), Check.link(2, 0, from, to));
        for (int moment = 0; moment < 64; moment++) {
            int first = Math.max(moment, from);
            String life = from + " to " + to + ": ";
            due(life + "odd(" + moment + ")", x.odd(moment), first < to ? first : NONE);
            due(life + "moment(" + moment + ", 2)", x.moment(moment, 2), in(moment, from, to) ? 1 : 0);
        }
        due("odd moments", x.count(4), to - from);
    }

    private static long bits(int from, int to) {
        long bits = 0;
        for (int moment = from; moment < to; moment++) {
            bits |= 1L << moment;
        }
        return bits;
    }

    /** Laid at a span if it lives at all of it, and not at all of the one around it. */
    private static void isLaidAtSpans(int from, int to) {
        LivedLinks x = with(from, to);
        long life = bits(from, to);
        int spans = 0;
        int laidInAll = 0;
        for (int length = 64, depth = 0; length >= 1; length /= 2, depth++) {
            for (int begin = 0; begin < 64; begin += length) {
                spans++;
                long here = bits(begin, begin + length);
                int around = begin / (2 * length) * (2 * length);
                long aroundIt = bits(around, Math.min(around + 2 * length, 64));
                boolean laid = (life & here) == here && (length == 64 || (life & aroundIt) != aroundIt);
                laidInAll += laid ? 1 : 0;
                due(from + " to " + to + ": span(" + begin + ", " + depth + ", 2)",
                    x.span(begin + length - 1, depth, 2), laid ? 1 : 0);
            }
        }
        due("spans in all", spans, 127);
        due(from + " to " + to + ": link(0, 4)", x.link(0, 4), laidInAll);
        due(from + " to " + to + ": count(1)", x.count(1), laidInAll);
        due(from + " to " + to + ": count(2)", x.count(2), 0);
        due(from + " to " + to + ": count(3)", x.count(3), 1);
    }

    /** Rows at the ends, rows that touch, overlap or stand apart by one, and rows of one length. */
    private static void rowsOfTwoLives() {
        int[] ends = {0, 1, 2, 3, 31, 32, 33, 61, 62, 63, 64};
        for (int from : ends) {
            for (int to : ends) {
                for (int second : ends) {
                    for (int end : ends) {
                        if (from < to && second < end) {
                            rowsOf(from, to, second, end);
                        }
                    }
                }
            }
        }
    }

    private static void rowsOf(int from, int to, int second, int end) {
        LivedLinks x = CHECK.with(Check.link(4, 5, from, to), Check.link(5, 4, second, end));
        long both = bits(from, to) | bits(second, end);
        int longest = 0;
        int begin = NONE;
        for (int length = 1; length <= 64; length++) {
            for (int moment = 64 - length; moment >= 0; moment--) {
                long row = bits(moment, moment + length);
                if ((both & row) == row) {
                    longest = length;
                    begin = moment;
                }
            }
        }
        int[] want = {Long.bitCount(both), Long.numberOfTrailingZeros(both), 63 - Long.numberOfLeadingZeros(both),
            longest, begin};
        for (int what = 0; what < want.length; what++) {
            due(from + " to " + to + " and " + second + " to " + end + ": together(4, 5, " + what + ")",
                x.together(4, 5, what), want[what]);
        }
    }
}

/** Promises 13 to 19, and of 21 what is no matter of the way by halves. */
public final class ToldTest {
    private static final int UNKNOWN = LivedLinks.UNKNOWN;
    private static final int BAD_VALUE = LivedLinks.BAD_VALUE;
    private static final int NONE = LivedLinks.NONE;

    private static final Check CHECK = new Check("ToldTest");

    public static void main(String[] args) {
        promise13Link();
        promise14Joined();
        promise15Moment();
        promise15Needed();
        promise16Part();
        promise17Needed();
        promise18Together();
        promise18Wrong();
        promise19Odd();
        promise19Rings();
        promise19AnyRing();
        promise21Count();
        CHECK.close();
    }

    private static void due(String call, long got, long want) {
        CHECK.due(call, got, want);
    }

    private static void promise13Link() {
        LivedLinks x = CHECK.with(Check.link(9, 2, 5, 33), Check.link(2, 3, 0, 64), Check.link(9, 3, 30, 40));
        due("link: -1", x.link(-1, 0), UNKNOWN);
        due("link: 3", x.link(3, 0), UNKNOWN);
        due("link: unknown first", x.link(3, 9), UNKNOWN);
        due("link: what -1", x.link(0, -1), BAD_VALUE);
        due("link: what 6", x.link(0, 6), BAD_VALUE);
        due("link: one", x.link(0, 0), 9);
        due("link: other", x.link(0, 1), 2);
        due("link: from", x.link(0, 2), 5);
        due("link: to", x.link(0, 3), 33);
        // 5, 6 to 7, 8 to 15, 16 to 31, 32
        due("link: spans", x.link(0, 4), 5);
        due("link: spans of the whole", x.link(1, 4), 1);
        // 30 to 31, 32 to 39
        due("link: spans across the middle", x.link(2, 4), 2);
        due("link: needed", x.link(0, 5), 25);
        due("link: needed, the long one", x.link(1, 5), 61);
        due("link: needed, the third", x.link(2, 5), 7);
        due("link: the worst life", x.setLife(0, 1, 63), 62);
        due("link: spans of the worst life", x.link(0, 4), 10);
        due("link: a half", x.setLife(0, 32, 64), 32);
        due("link: spans of a half", x.link(0, 4), 1);
    }

    private static void promise14Joined() {
        LivedLinks x = CHECK.with(Check.link(0, 1, 0, 10), Check.link(2, 1, 5, 20), Check.link(15, 2, 9, 64));
        due("joined: moment -1", x.joined(-1, 0, 1), UNKNOWN);
        due("joined: moment 64", x.joined(64, 0, 1), UNKNOWN);
        due("joined: one -1", x.joined(0, -1, 1), UNKNOWN);
        due("joined: one 16", x.joined(0, 16, 1), UNKNOWN);
        due("joined: other -1", x.joined(0, 0, -1), UNKNOWN);
        due("joined: other 16", x.joined(0, 0, 16), UNKNOWN);
        due("joined: with itself", x.joined(0, 7, 7), 1);
        due("joined: 0 1 at 0", x.joined(0, 0, 1), 1);
        due("joined: 1 0 at 9", x.joined(9, 1, 0), 1);
        due("joined: 0 1 at 10", x.joined(10, 0, 1), 0);
        due("joined: 0 2 at 4", x.joined(4, 0, 2), 0);
        due("joined: 0 2 at 5", x.joined(5, 0, 2), 1);
        due("joined: 0 15 at 8", x.joined(8, 0, 15), 0);
        due("joined: 0 15 at 9", x.joined(9, 0, 15), 1);
        due("joined: 15 0 at 9", x.joined(9, 15, 0), 1);
        due("joined: 15 2 at 63", x.joined(63, 15, 2), 1);
        due("joined: 15 1 at 20", x.joined(20, 15, 1), 0);
    }

    private static void promise15Moment() {
        LivedLinks x = CHECK.with(Check.link(0, 1, 0, 10), Check.link(1, 2, 5, 20), Check.link(0, 2, 7, 64),
            Check.link(4, 5, 7, 8), Check.link(5, 4, 7, 8));
        due("moment: -1", x.moment(-1, 0), UNKNOWN);
        due("moment: 64", x.moment(64, 0), UNKNOWN);
        due("moment: unknown first", x.moment(64, 6), UNKNOWN);
        due("moment: what -1", x.moment(0, -1), BAD_VALUE);
        due("moment: what 6", x.moment(0, 6), BAD_VALUE);
        momentIs(x, 0, 1, 15, 0, 2, 1, 14);
        momentIs(x, 5, 2, 14, 0, 3, 2, 13);
        momentIs(x, 7, 5, 13, 1, 3, 0, 11);
        momentIs(x, 8, 3, 14, 1, 3, 0, 13);
        momentIs(x, 10, 2, 14, 0, 3, 2, 13);
        momentIs(x, 20, 1, 15, 0, 2, 1, 14);
        momentIs(x, 63, 1, 15, 0, 2, 1, 14);
        momentIs(new LivedLinks(), 30, 0, 16, 0, 1, 0, 16);
        // One number of one moment behind the same number of another one.
        int[][] numbers = {{0, 1, 15, 0, 2, 1, 14}, {5, 2, 14, 0, 3, 2, 13}, {7, 5, 13, 1, 3, 0, 11},
            {10, 2, 14, 0, 3, 2, 13}, {63, 1, 15, 0, 2, 1, 14}};
        for (int what = 0; what < 6; what++) {
            for (int[] told : numbers) {
                due("moment(" + told[0] + ", " + what + ") in turn", x.moment(told[0], what), told[1 + what]);
            }
        }
    }

    private static void momentIs(LivedLinks x, int moment, int... want) {
        for (int what = 0; what < want.length; what++) {
            due("moment(" + moment + ", " + what + ")", x.moment(moment, what), want[what]);
        }
    }

    private static void promise15Needed() {
        // All points in one chain: each link is needed; a ring of all: none is.
        LivedLinks x = new LivedLinks();
        for (int point = 0; point < 15; point++) {
            x.addLink(point + 1, point, 3, 5);
        }
        momentIs(x, 3, 15, 1, 0, 16, 15, 0);
        momentIs(x, 5, 0, 16, 0, 1, 0, 16);
        x.addLink(15, 0, 4, 5);
        momentIs(x, 4, 16, 1, 0, 16, 0, 0);
        x.addLink(0, 14, 4, 5);
        momentIs(x, 4, 17, 1, 1, 16, 0, 0);
    }

    private static void promise16Part() {
        LivedLinks x = CHECK.with(Check.link(15, 9, 1, 3), Check.link(9, 4, 2, 3), Check.link(0, 3, 0, 64));
        due("part: moment -1", x.part(-1, 0, 0), UNKNOWN);
        due("part: moment 64", x.part(64, 0, 0), UNKNOWN);
        due("part: point -1", x.part(0, -1, 0), UNKNOWN);
        due("part: point 16", x.part(0, 16, 0), UNKNOWN);
        due("part: unknown first", x.part(0, 16, 3), UNKNOWN);
        due("part: what -1", x.part(0, 0, -1), BAD_VALUE);
        due("part: what 3", x.part(0, 0, 3), BAD_VALUE);
        partIs(x, 0, 15, 15, 1, 1 << 15);
        partIs(x, 1, 15, 9, 2, 1 << 15 | 1 << 9);
        partIs(x, 2, 15, 4, 3, 1 << 15 | 1 << 9 | 1 << 4);
        partIs(x, 2, 4, 4, 3, 1 << 15 | 1 << 9 | 1 << 4);
        partIs(x, 2, 9, 4, 3, 1 << 15 | 1 << 9 | 1 << 4);
        partIs(x, 2, 3, 0, 2, 9);
        partIs(x, 2, 0, 0, 2, 9);
        partIs(x, 3, 9, 9, 1, 1 << 9);
        // One number of one moment behind the same number of another one.
        int[][] numbers = {{0, 9, 1, 1 << 9}, {1, 9, 2, 1 << 15 | 1 << 9}, {2, 4, 3, 1 << 15 | 1 << 9 | 1 << 4},
            {3, 9, 1, 1 << 9}};
        for (int what = 0; what < 3; what++) {
            for (int[] told : numbers) {
                due("part of 9 at " + told[0] + ", " + what, x.part(told[0], 9, what), told[1 + what]);
            }
        }
    }

    private static void partIs(LivedLinks x, int moment, int point, int lowest, int size, int bits) {
        due("part(" + moment + ", " + point + ", 0)", x.part(moment, point, 0), lowest);
        due("part(" + moment + ", " + point + ", 1)", x.part(moment, point, 1), size);
        due("part(" + moment + ", " + point + ", 2)", x.part(moment, point, 2), bits);
    }

    private static void promise17Needed() {
        LivedLinks x = CHECK.with(Check.link(0, 1, 5, 10), Check.link(1, 2, 0, 64), Check.link(0, 2, 8, 20),
            Check.link(1, 2, 30, 31));
        due("needed: link -1", x.needed(-1, 0), UNKNOWN);
        due("needed: link 4", x.needed(4, 0), UNKNOWN);
        due("needed: moment -1", x.needed(0, -1), UNKNOWN);
        due("needed: moment 64", x.needed(0, 64), UNKNOWN);
        due("needed: ahead of its life", x.needed(0, 4), NONE);
        due("needed: first", x.needed(0, 5), 1);
        due("needed: ahead of the ring", x.needed(0, 7), 1);
        due("needed: the ring", x.needed(0, 8), 0);
        due("needed: the ring, second", x.needed(1, 8), 0);
        due("needed: the ring, third", x.needed(2, 9), 0);
        due("needed: behind its life", x.needed(0, 10), NONE);
        due("needed: behind the ring", x.needed(2, 10), 1);
        due("needed: two of the same points", x.needed(1, 30), 0);
        due("needed: the other of them", x.needed(3, 30), 0);
        due("needed: alone again", x.needed(1, 31), 1);
        due("needed: last moment", x.needed(1, 63), 1);
    }

    private static void togetherIs(LivedLinks x, int one, int other, int... want) {
        for (int what = 0; what < want.length; what++) {
            due("together(" + one + ", " + other + ", " + what + ")", x.together(one, other, what), want[what]);
            due("together(" + other + ", " + one + ", " + what + ")", x.together(other, one, what), want[what]);
        }
    }

    private static void promise18Together() {
        LivedLinks x = CHECK.with(Check.link(0, 1, 2, 5), Check.link(0, 1, 7, 10), Check.link(1, 0, 20, 22),
            Check.link(1, 2, 9, 21), Check.link(5, 6, 63, 64), Check.link(7, 8, 0, 1));
        togetherIs(x, 0, 1, 8, 2, 21, 3, 2);
        togetherIs(x, 0, 2, 2, 9, 20, 1, 9);
        togetherIs(x, 5, 6, 1, 63, 63, 1, 63);
        togetherIs(x, 7, 8, 1, 0, 0, 1, 0);
        togetherIs(x, 4, 4, 64, 0, 63, 64, 0);
        togetherIs(x, 0, 3, 0, NONE, NONE, 0, NONE);
        // A later row that is longer, up to the last moment, of two lives one behind the other.
        x.addLink(0, 1, 58, 61);
        x.addLink(0, 1, 61, 64);
        togetherIs(x, 0, 1, 14, 2, 63, 6, 58);
        // A row that a way by others holds on.
        x.addLink(0, 9, 5, 7);
        x.addLink(9, 1, 4, 8);
        togetherIs(x, 0, 1, 16, 2, 63, 8, 2);
    }

    private static void promise18Wrong() {
        LivedLinks x = new LivedLinks();
        due("together: one -1", x.together(-1, 0, 0), UNKNOWN);
        due("together: one 16", x.together(16, 0, 0), UNKNOWN);
        due("together: other -1", x.together(0, -1, 0), UNKNOWN);
        due("together: other 16", x.together(0, 16, 0), UNKNOWN);
        due("together: unknown first", x.together(0, 16, 5), UNKNOWN);
        due("together: what -1", x.together(0, 0, -1), BAD_VALUE);
        due("together: what 5", x.together(0, 0, 5), BAD_VALUE);
        due("together: bad value ahead of none", x.together(0, 1, 5), BAD_VALUE);
    }

    private static void promise19Odd() {
        LivedLinks x = CHECK.with(Check.link(0, 1, 3, 30), Check.link(1, 2, 5, 20), Check.link(2, 0, 10, 12),
            Check.link(0, 2, 15, 40));
        due("odd: -1", x.odd(-1), UNKNOWN);
        due("odd: 64", x.odd(64), UNKNOWN);
        due("odd: 0", x.odd(0), 10);
        due("odd: 10", x.odd(10), 10);
        due("odd: 11", x.odd(11), 11);
        due("odd: 12", x.odd(12), 15);
        due("odd: 19", x.odd(19), 19);
        due("odd: 20", x.odd(20), NONE);
        due("odd: 63", x.odd(63), NONE);
        due("odd: none of nothing", new LivedLinks().odd(0), NONE);
        LivedLinks last = CHECK.with(Check.link(0, 1, 63, 64), Check.link(1, 2, 63, 64), Check.link(2, 0, 63, 64));
        due("odd: the last moment", last.odd(0), 63);
        due("odd: from the last moment", last.odd(63), 63);
    }

    /** A ring of each length from 2 to 16, with a tail: odd just if its length is. */
    private static void promise19Rings() {
        for (int length = 2; length <= 16; length++) {
            LivedLinks x = new LivedLinks();
            for (int point = 0; point < length; point++) {
                x.addLink((point * 7) % 16, ((point + 1) % length * 7) % 16, 4, 6);
            }
            if (length < 16) {
                x.addLink(0, length * 7 % 16, 5, 6);
            }
            due("ring of " + length + ": odd", x.odd(0), length % 2 == 1 ? 4 : NONE);
            due("ring of " + length + ": moment", x.moment(5, 2), length % 2);
            due("ring of " + length + ": count", x.count(4), length % 2 * 2);
        }
        // Two rings of four that share a link, and then a chord that makes triangles.
        LivedLinks x = CHECK.with(Check.link(0, 1, 0, 9), Check.link(1, 2, 0, 9), Check.link(2, 3, 0, 9),
            Check.link(3, 0, 0, 9), Check.link(2, 4, 0, 9), Check.link(4, 5, 0, 9), Check.link(5, 3, 0, 9));
        due("rings that share a link", x.odd(0), NONE);
        x.addLink(5, 1, 2, 3);
        due("a link between opposite ones", x.moment(2, 2), 0);
        x.addLink(0, 5, 4, 5);
        due("a link between like ones", x.odd(0), 4);
    }

    /** Any ring makes a moment odd, in whichever part it is, and beside rings of even length. */
    private static void promise19AnyRing() {
        for (int point = 0; point < 14; point++) {
            LivedLinks x = CHECK.with(Check.link(point, point + 1, 8, 9), Check.link(point + 1, point + 2, 8, 9),
                Check.link(point + 2, point, 8, 9));
            due("a ring with " + point + ": odd", x.odd(0), 8);
            due("a ring with " + point + ": moment", x.moment(8, 2), 1);
            due("a ring with " + point + ": count", x.count(4), 1);
        }
        LivedLinks x = CHECK.with(Check.link(0, 1, 0, 64), Check.link(1, 0, 0, 64), Check.link(2, 3, 0, 64),
            Check.link(3, 4, 0, 64), Check.link(4, 5, 0, 64), Check.link(5, 2, 0, 64), Check.link(15, 14, 20, 40),
            Check.link(14, 13, 30, 64), Check.link(13, 15, 0, 32));
        due("beside even rings: odd", x.odd(0), 30);
        due("beside even rings: the last one", x.odd(31), 31);
        due("beside even rings: none behind it", x.odd(32), NONE);
        due("beside even rings: count", x.count(4), 2);
    }

    private static void promise21Count() {
        LivedLinks x = CHECK.with(Check.link(0, 1, 0, 64), Check.link(1, 2, 5, 20), Check.link(2, 0, 10, 12),
            Check.link(7, 8, 11, 13));
        due("count: -1", x.count(-1), BAD_VALUE);
        due("count: 9", x.count(9), BAD_VALUE);
        due("count: links", x.count(0), 4);
        due("count: odd moments", x.count(4), 2);
        due("count: most parts", x.count(5), 15);
        due("count: fewest parts", x.count(6), 13);
        due("count: states", x.count(7), 4);
        CHECK.types(x, "abc");
        due("count: text", x.count(8), 3);
        x.setLife(0, 1, 64);
        due("count: most parts with a moment without links", x.count(5), 16);
        x.addLink(0, 1, 0, 1);
        x.addLink(1, 2, 0, 1);
        x.addLink(2, 0, 0, 1);
        x.addLink(3, 4, 0, 1);
        x.addLink(4, 5, 0, 1);
        due("count: odd moments with the first one", x.count(4), 3);
        due("count: fewest parts at the first one", x.count(6), 12);
        x.addLink(0, 1, 63, 64);
        x.addLink(2, 0, 63, 64);
        x.addLink(1, 2, 63, 64);
        x.addLink(3, 2, 63, 64);
        x.addLink(3, 4, 63, 64);
        x.addLink(5, 4, 63, 64);
        due("count: odd moments with the last one", x.count(4), 4);
        due("count: fewest parts at the last one", x.count(6), 11);
        LivedLinks none = new LivedLinks();
        int[] want = {0, 0, 0, 0, 0, 16, 16, 0, 0};
        for (int what = 0; what < want.length; what++) {
            due("count: new " + what, none.count(what), want[what]);
        }
    }
}

/** Nothing there, and full: what each promise answers where there is least and where there is most. */
public final class LimitsTest {
    private static final int FULL = LivedLinks.FULL;
    private static final int NONE = LivedLinks.NONE;
    private static final int UNKNOWN = LivedLinks.UNKNOWN;

    private static final Check CHECK = new Check("LimitsTest");

    public static void main(String[] args) {
        noLinkAtEachMoment();
        noLinkOnTheWay();
        noTextNoHistoryNoSnapshot();
        neverJoined();
        fortyLinksOfTheSamePoints();
        fortyByCut();
        roomAgainBehindFull();
        allPointsJoined();
        numbersBehindARemoval();
        numbersBehindAClear();
        fourStates();
        undoneAndActedAgain();
        snapshotOfNothing();
        snapshotInPlaceOfTheOther();
        snapshotStaysBehindUndo();
        sixtyCharacters();
        theLastCalls();
        CHECK.close();
    }

    private static void due(String call, long got, long want) {
        CHECK.due(call, got, want);
    }

    private static void noLinkAtEachMoment() {
        int[] want = {0, 16, 0, 1, 0, 16};
        for (int moment = 0; moment < 64; moment++) {
            LivedLinks x = new LivedLinks();
            for (int what = 0; what < want.length; what++) {
                due("nothing: moment(" + moment + ", " + what + ")", x.moment(moment, what), want[what]);
            }
            due("nothing: odd(" + moment + ")", x.odd(moment), NONE);
            due("nothing: clear(" + moment + ")", x.clear(moment), NONE);
            for (int point = 0; point < 16; point++) {
                due("nothing: part lowest", x.part(moment, point, 0), point);
                due("nothing: part size", x.part(moment, point, 1), 1);
                due("nothing: part bits", x.part(moment, point, 2), 1 << point);
                due("nothing: with itself", x.joined(moment, point, point), 1);
                due("nothing: with the next", x.joined(moment, point, (point + 1) % 16), 0);
            }
        }
    }

    private static void noLinkOnTheWay() {
        for (int depth = 0; depth <= 6; depth++) {
            LivedLinks x = new LivedLinks();
            for (int moment = 0; moment < 64; moment++) {
                for (int what = 2; what <= 4; what++) {
                    due("nothing: span(" + moment + ", " + depth + ", " + what + ")", x.span(moment, depth, what), 0);
                }
            }
        }
        int[] want = {0, 0, 0, 0, 0, 16, 16, 0, 0};
        LivedLinks x = new LivedLinks();
        for (int what = 0; what < want.length; what++) {
            due("nothing: count(" + what + ")", x.count(what), want[what]);
        }
    }

    private static void noTextNoHistoryNoSnapshot() {
        LivedLinks x = new LivedLinks();
        due("no text: readLinks", x.readLinks(), -100);
        due("no text: clearText", x.clearText(), 0);
        due("no history: undo", x.undo(), NONE);
        due("no snapshot: restore", x.restore(), NONE);
        due("no link: removeLink", x.removeLink(0), UNKNOWN);
        due("no link: setLife", x.setLife(0, 0, 1), UNKNOWN);
        due("no link: cut", x.cut(0, 1), UNKNOWN);
        due("no link: link", x.link(0, 0), UNKNOWN);
        due("no link: needed", x.needed(0, 0), UNKNOWN);
        due("nothing has come of these", x.count(7), 0);
    }

    private static void neverJoined() {
        LivedLinks x = new LivedLinks();
        int[] same = {64, 0, 63, 64, 0};
        int[] apart = {0, NONE, NONE, 0, NONE};
        for (int what = 0; what <= 4; what++) {
            due("never: together(0, 15, " + what + ")", x.together(0, 15, what), apart[what]);
            due("never: together(15, 0, " + what + ")", x.together(15, 0, what), apart[what]);
            due("always: together(0, 0, " + what + ")", x.together(0, 0, what), same[what]);
            due("always: together(15, 15, " + what + ")", x.together(15, 15, what), same[what]);
        }
    }

    /** Several links may join the same points; 40 of them are the most that can be idle and laid. */
    private static void fortyLinksOfTheSamePoints() {
        LivedLinks x = new LivedLinks();
        for (int link = 0; link < 40; link++) {
            due("forty: add", x.addLink(link % 2 * 15, 15 - link % 2 * 15, 1, 63), link);
        }
        due("forty: one more", x.addLink(0, 15, 1, 63), FULL);
        due("forty: links", x.count(0), 40);
        due("forty: made", x.count(1), 10);
        due("forty: idle", x.count(2), 390);
        due("forty: standing", x.count(3), 1);
        due("forty: odd", x.count(4), 0);
        due("forty: living", x.moment(1, 0), 40);
        due("forty: needed", x.moment(62, 4), 0);
        due("forty: not at 0", x.moment(0, 0), 0);
        due("forty: not at 63", x.moment(63, 0), 0);
        due("forty: spans of the last", x.link(39, 4), 10);
        due("forty: needed moments of the last", x.link(39, 5), 0);
        due("forty: idle ones of a span", x.span(62, 6, 4), 39);
        due("forty: behind the last", x.link(40, 0), UNKNOWN);
        due("forty: clear", x.clear(62), 40);
        due("forty: none left", x.count(0), 0);
        due("forty: undo", x.undo(), 3);
        due("forty: all again", x.count(0), 40);
    }

    private static void fortyByCut() {
        LivedLinks x = CHECK.with(Check.link(3, 12, 0, 64));
        for (int moment = 1; moment < 40; moment++) {
            due("by cut", x.cut(moment - 1, moment), moment);
        }
        due("by cut: full", x.cut(39, 63), FULL);
        due("by cut: links", x.count(0), 40);
        for (int link = 0; link < 40; link++) {
            due("by cut: one", x.link(link, 0), 3);
            due("by cut: other", x.link(link, 1), 12);
            due("by cut: from", x.link(link, 2), link);
            due("by cut: to", x.link(link, 3), link == 39 ? 64 : link + 1);
        }
        due("by cut: always together", x.together(12, 3, 3), 64);
    }

    private static void roomAgainBehindFull() {
        LivedLinks x = Ways.full();
        due("room: full", x.addLink(0, 1, 0, 1), FULL);
        due("room: remove", x.removeLink(39), 39);
        due("room: add", x.addLink(0, 1, 0, 1), 39);
        due("room: full again", x.addLink(0, 1, 0, 1), FULL);
        due("room: undo", x.undo(), 3);
        due("room: cut", x.cut(0, 10), 39);
        due("room: no more", x.cut(1, 10), FULL);
        due("room: setLife needs none", x.setLife(1, 0, 1), 1);
        due("room: the snapshot's", x.restore(), 39);
        due("room: one more", x.addLink(0, 1, 0, 1), 39);
    }

    private static void allPointsJoined() {
        LivedLinks x = new LivedLinks();
        for (int point = 0; point < 15; point++) {
            x.addLink(point, point + 1, 0, 64);
        }
        int[] want = {15, 1, 0, 16, 15, 0};
        for (int moment = 0; moment < 64; moment += 63) {
            for (int what = 0; what < want.length; what++) {
                due("all joined: moment(" + moment + ", " + what + ")", x.moment(moment, what), want[what]);
            }
            due("all joined: lowest", x.part(moment, 15, 0), 0);
            due("all joined: size", x.part(moment, 15, 1), 16);
            due("all joined: bits", x.part(moment, 0, 2), 65535);
            due("all joined: ends", x.joined(moment, 0, 15), 1);
        }
        due("all joined: needed", x.link(14, 5), 64);
        due("all joined: most parts", x.count(5), 1);
        due("all joined: fewest parts", x.count(6), 1);
        due("all joined: standing", x.count(3), 15);
        x.addLink(15, 1, 0, 64);
        due("all odd", x.count(4), 64);
        due("all odd: from the first", x.odd(0), 0);
        due("all odd: from the last", x.odd(63), 63);
        due("all odd: not needed", x.link(14, 5), 0);
        due("all odd: needed outside the ring", x.link(0, 5), 64);
    }

    /** When a link is removed, later ones have one number less, and earlier ones keep theirs. */
    private static void numbersBehindARemoval() {
        for (int removed = 0; removed < 40; removed++) {
            LivedLinks x = Ways.full();
            due("numbers: remove " + removed, x.removeLink(removed), 39);
            for (int link = 0; link < 39; link++) {
                int was = link < removed ? link : link + 1;
                due("numbers: one of " + link, x.link(link, 0), was == 39 ? 15 : was % 15);
                due("numbers: other of " + link, x.link(link, 1), was == 39 ? 14 : 15);
                due("numbers: from of " + link, x.link(link, 2), was == 39 ? 62 : was);
                due("numbers: to of " + link, x.link(link, 3), was == 39 ? 64 : Math.min(was + 20, 64));
            }
            due("numbers: the last is gone", x.link(39, 0), UNKNOWN);
        }
    }

    private static void numbersBehindAClear() {
        LivedLinks x = CHECK.with(Check.link(0, 1, 0, 64), Check.link(2, 3, 0, 1), Check.link(4, 5, 63, 64),
            Check.link(6, 7, 0, 63), Check.link(8, 9, 1, 64));
        due("clear 0", x.clear(0), 3);
        CHECK.hasLinks("clear 0", x, Check.link(4, 5, 63, 64), Check.link(8, 9, 1, 64));
        due("clear 0: undo", x.undo(), 3);
        due("clear 63", x.clear(63), 3);
        CHECK.hasLinks("clear 63", x, Check.link(2, 3, 0, 1), Check.link(6, 7, 0, 63));
        due("clear 62", x.clear(62), 1);
        due("clear 1", x.clear(1), NONE);
        due("clear 0 again", x.clear(0), 1);
        due("clear: none left", x.clear(0), NONE);
    }

    private static void fourStates() {
        for (int acts = 0; acts <= 10; acts++) {
            LivedLinks x = new LivedLinks();
            for (int act = 0; act < acts; act++) {
                due("states: act", x.addLink(0, 1, act, 64), act);
            }
            int states = Math.min(acts, 4);
            due("states: of " + acts, x.count(7), states);
            for (int left = states - 1; left >= 0; left--) {
                due("states: undo", x.undo(), left);
                due("states: count", x.count(7), left);
                due("states: links", x.count(0), acts - states + left);
            }
            due("states: none", x.undo(), NONE);
            due("states: links stay", x.count(0), acts - states);
        }
    }

    /** undo() is no act: there is no way back to what it took away, and room for what comes then. */
    private static void undoneAndActedAgain() {
        LivedLinks x = Ways.full();
        due("again: undo", x.undo(), 3);
        due("again: undo", x.undo(), 2);
        due("again: act", x.setLife(0, 5, 6), 1);
        due("again: states", x.count(7), 3);
        due("again: act", x.removeLink(0), 37);
        due("again: act", x.removeLink(0), 36);
        due("again: states", x.count(7), 4);
        due("again: undo", x.undo(), 3);
        due("again: undo", x.undo(), 2);
        due("again: one of the life", x.link(0, 2), 5);
        due("again: undo", x.undo(), 1);
        due("again: the life ahead of it", x.link(0, 2), 0);
        due("again: links", x.count(0), 38);
        due("again: undo", x.undo(), 0);
        due("again: the oldest that is left", x.count(0), 37);
        due("again: none", x.undo(), NONE);
    }

    /** A snapshot without links is a snapshot. */
    private static void snapshotOfNothing() {
        LivedLinks x = new LivedLinks();
        due("of nothing: none", x.restore(), NONE);
        due("of nothing: keep", x.keep(), 0);
        due("of nothing: restore", x.restore(), 0);
        due("of nothing: recorded", x.count(7), 1);
        due("of nothing: undo", x.undo(), 0);
        due("of nothing: stays", x.restore(), 0);
    }

    private static void snapshotInPlaceOfTheOther() {
        LivedLinks x = Ways.full();
        due("in place: keep 40", x.keep(), 40);
        due("in place: clear", x.clear(30) > 0 ? 1 : 0, 1);
        due("in place: restore", x.restore(), 40);
        due("in place: the last one", x.link(39, 2), 62);
        for (int left = 39; left >= 0; left--) {
            due("in place: remove", x.removeLink(left), left);
        }
        due("in place: keep 0", x.keep(), 0);
        due("in place: undo", x.undo(), 3);
        due("in place: restore 0", x.restore(), 0);
        due("in place: restored", x.count(0), 0);
    }

    private static void snapshotStaysBehindUndo() {
        LivedLinks x = new LivedLinks();
        x.addLink(0, 1, 2, 3);
        due("stays: keep", x.keep(), 1);
        due("stays: undo ahead of it", x.undo(), 0);
        due("stays: no link", x.count(0), 0);
        due("stays: restore", x.restore(), 1);
        CHECK.hasLinks("stays", x, Check.link(0, 1, 2, 3));
        due("stays: undo", x.undo(), 0);
        due("stays: none", x.undo(), NONE);
        due("stays: restore again", x.restore(), 1);
        CHECK.hasLinks("stays: again", x, Check.link(0, 1, 2, 3));
    }

    private static void sixtyCharacters() {
        LivedLinks x = new LivedLinks();
        String text = "10-11@12:13,12-13@14:15,14-15@16:17,1-2@3:4,5-6@7:8,9-8@7:64";
        due("sixty: as told", text.length(), 60);
        CHECK.types(x, text);
        due("sixty: one more", x.type(','), FULL);
        due("sixty: length", x.count(8), 60);
        due("sixty: read", x.readLinks(), 6);
        CHECK.hasLinks("sixty", x, Check.link(10, 11, 12, 13), Check.link(12, 13, 14, 15), Check.link(14, 15, 16, 17),
            Check.link(1, 2, 3, 4), Check.link(5, 6, 7, 8), Check.link(9, 8, 7, 64));
        due("sixty: clearText", x.clearText(), 60);
        due("sixty: room again", x.type('1'), 1);
        due("sixty: only that", x.readLinks(), -101);
    }

    /** An object is used for 512 calls: the last of them is answered as the first. */
    private static void theLastCalls() {
        LivedLinks x = new LivedLinks();
        for (int turn = 0; turn < 127; turn++) {
            due("last: add", x.addLink(0, 1, 0, 64), 0);
            due("last: cut", x.cut(0, 32), 1);
            due("last: clear", x.clear(32), 1);
            due("last: remove", x.removeLink(0), 0);
        }
        due("last: 509", x.undo(), 3);
        due("last: 510", x.undo(), 2);
        due("last: 511", x.link(1, 2), 32);
        due("last: 512", x.count(1), 2);
    }
}

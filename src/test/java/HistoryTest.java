/** Promises 10 to 12, and what each act records. */
public final class HistoryTest {
    private static final int NONE = LivedLinks.NONE;

    private static final Check CHECK = new Check("HistoryTest");

    public static void main(String[] args) {
        promise10Undo();
        promise10OldestIsDropped();
        promise10EveryAct();
        promise10NoAct();
        promise11Keep();
        promise12Restore();
        objectsAreApart();
        CHECK.close();
    }

    private static void due(String call, long got, long want) {
        CHECK.due(call, got, want);
    }

    private static void promise10Undo() {
        LivedLinks x = CHECK.with(Check.link(0, 1, 2, 3), Check.link(4, 5, 6, 7));
        due("undo: first", x.undo(), 1);
        CHECK.hasLinks("undo: first", x, Check.link(0, 1, 2, 3));
        due("undo: second", x.undo(), 0);
        CHECK.hasLinks("undo: second", x);
        due("undo: none", x.undo(), NONE);
        due("undo: none again", x.undo(), NONE);
        due("undo: states", x.count(7), 0);
        due("undo: act again", x.addLink(8, 9, 10, 11), 0);
        due("undo: states again", x.count(7), 1);
    }

    private static void promise10OldestIsDropped() {
        LivedLinks x = new LivedLinks();
        for (int link = 0; link < 11; link++) {
            due("dropped: add", x.addLink(link, 15, link, 64), link);
            due("dropped: states", x.count(7), Math.min(link + 1, 4));
        }
        for (int left = 3; left >= 0; left--) {
            due("dropped: undo", x.undo(), left);
            due("dropped: links", x.count(0), 7 + left);
            due("dropped: last link", x.link(6 + left, 0), 6 + left);
        }
        due("dropped: none", x.undo(), NONE);
        due("dropped: links left", x.count(0), 7);
        for (int link = 0; link < 7; link++) {
            due("dropped: link", x.link(link, 2), link);
        }
    }

    private static void promise10EveryAct() {
        LivedLinks x = CHECK.with(Check.link(0, 1, 2, 30), Check.link(4, 5, 6, 7));
        due("acts: keep", x.keep(), 2);
        CHECK.types(x, "9-8@7:9");
        for (int act = 0; act < 7; act++) {
            actOf(x, act);
            due("acts: states behind " + act, x.count(7), 3);
            due("acts: undo " + act, x.undo(), 2);
            CHECK.hasLinks("acts: undone " + act, x, Check.link(0, 1, 2, 30), Check.link(4, 5, 6, 7));
        }
    }

    private static void actOf(LivedLinks x, int act) {
        switch (act) {
            case 0 -> due("acts: addLink", x.addLink(2, 3, 4, 5), 2);
            case 1 -> due("acts: removeLink", x.removeLink(0), 1);
            case 2 -> due("acts: setLife", x.setLife(0, 3, 4), 1);
            case 3 -> due("acts: cut", x.cut(0, 20), 2);
            case 4 -> due("acts: readLinks", x.readLinks(), 3);
            case 5 -> due("acts: clear", x.clear(6), 2);
            default -> due("acts: restore", x.restore(), 2);
        }
    }

    private static void promise10NoAct() {
        LivedLinks x = CHECK.with(Check.link(0, 1, 2, 30));
        x.type('0');
        x.clearText();
        x.keep();
        x.undo();
        due("no acts: states", x.count(7), 0);
        due("no acts: restore", x.restore(), 1);
        x.type('0');
        x.type('-');
        x.clearText();
        x.keep();
        for (int what = 0; what < 9; what++) {
            x.count(what);
        }
        x.link(0, 5);
        x.moment(3, 4);
        x.together(0, 1, 3);
        x.odd(0);
        x.span(0, 6, 3);
        due("no acts: states again", x.count(7), 1);
        due("no acts: undo", x.undo(), 0);
        CHECK.hasLinks("no acts: undone", x);
    }

    private static void promise11Keep() {
        LivedLinks x = new LivedLinks();
        due("keep: empty", x.keep(), 0);
        due("keep: add", x.addLink(0, 1, 2, 3), 0);
        due("keep: restore the empty one", x.restore(), 0);
        CHECK.hasLinks("keep: empty", x);
        due("keep: add again", x.addLink(4, 5, 6, 7), 0);
        due("keep: one", x.keep(), 1);
        due("keep: change", x.setLife(0, 0, 64), 64);
        due("keep: more", x.addLink(1, 2, 3, 4), 1);
        due("keep: restore", x.restore(), 1);
        CHECK.hasLinks("keep: in place of the one that was", x, Check.link(4, 5, 6, 7));
    }

    private static void promise12Restore() {
        LivedLinks x = CHECK.with(Check.link(0, 1, 2, 3), Check.link(4, 5, 6, 7));
        due("restore: none", x.restore(), NONE);
        due("restore: none is not recorded", x.count(7), 2);
        due("restore: keep", x.keep(), 2);
        due("restore: the same state is recorded", x.restore(), 2);
        due("restore: states", x.count(7), 3);
        CHECK.types(x, "0-1@0:1");
        due("restore: clear", x.clear(6), 1);
        due("restore: change", x.setLife(0, 9, 10), 1);
        due("restore: back", x.restore(), 2);
        CHECK.hasLinks("restore: back", x, Check.link(0, 1, 2, 3), Check.link(4, 5, 6, 7));
        due("restore: the text is no part of it", x.count(8), 7);
        due("restore: nor the history", x.count(7), 4);
        due("restore: undo", x.undo(), 3);
        CHECK.hasLinks("restore: undone", x, Check.link(0, 1, 9, 10));
        due("restore: the snapshot stays", x.restore(), 2);
        due("restore: a change of the state", x.removeLink(0), 1);
        due("restore: is none of the snapshot", x.restore(), 2);
        CHECK.hasLinks("restore: again", x, Check.link(0, 1, 2, 3), Check.link(4, 5, 6, 7));
        due("restore: undo takes no snapshot away", x.undo(), 3);
        due("restore: still", x.restore(), 2);
    }

    private static void objectsAreApart() {
        LivedLinks x = CHECK.with(Check.link(0, 1, 2, 3));
        x.keep();
        x.type('1');
        LivedLinks y = new LivedLinks();
        CHECK.hasLinks("apart", y);
        due("apart: restore", y.restore(), NONE);
        due("apart: text", y.count(8), 0);
        due("apart: states", y.count(7), 0);
    }
}

/** Promises 1 to 5 and 7: the new object, and the acts upon links. */
public final class ActsTest {
    private static final int UNKNOWN = LivedLinks.UNKNOWN;
    private static final int BAD_VALUE = LivedLinks.BAD_VALUE;
    private static final int FULL = LivedLinks.FULL;
    private static final int NOT_POSSIBLE = LivedLinks.NOT_POSSIBLE;
    private static final int NONE = LivedLinks.NONE;

    private static final Check CHECK = new Check("ActsTest");

    public static void main(String[] args) {
        promise1NewObject();
        promise2AddLink();
        promise2Full();
        promise3RemoveLink();
        promise4SetLife();
        promise5Cut();
        promise5Full();
        promise7Clear();
        CHECK.close();
    }

    private static void due(String call, long got, long want) {
        CHECK.due(call, got, want);
    }

    private static void promise1NewObject() {
        LivedLinks x = new LivedLinks();
        CHECK.hasLinks("new", x);
        for (int moment = 0; moment < 64; moment++) {
            due("new: links of " + moment, x.moment(moment, 0), 0);
            due("new: parts of " + moment, x.moment(moment, 1), 16);
            due("new: linkless points of " + moment, x.moment(moment, 5), 16);
        }
        due("new: states", x.count(7), 0);
        due("new: text", x.count(8), 0);
        due("new: undo", x.undo(), NONE);
        due("new: restore", x.restore(), NONE);
        due("new: restore again", x.count(7), 0);
    }

    private static void promise2AddLink() {
        LivedLinks x = new LivedLinks();
        due("add: one -1", x.addLink(-1, 0, 0, 1), UNKNOWN);
        due("add: one 16", x.addLink(16, 0, 0, 1), UNKNOWN);
        due("add: other -1", x.addLink(0, -1, 0, 1), UNKNOWN);
        due("add: other 16", x.addLink(0, 16, 0, 1), UNKNOWN);
        due("add: points ahead of moments", x.addLink(16, 16, -1, 99), UNKNOWN);
        due("add: greatest one", x.addLink(Integer.MAX_VALUE, 0, 0, 1), UNKNOWN);
        due("add: least other", x.addLink(0, Integer.MIN_VALUE, 0, 1), UNKNOWN);
        due("add: same", x.addLink(3, 3, 0, 1), BAD_VALUE);
        due("add: from -1", x.addLink(0, 1, -1, 1), BAD_VALUE);
        due("add: from 64", x.addLink(0, 1, 64, 65), BAD_VALUE);
        due("add: to 0", x.addLink(0, 1, 0, 0), BAD_VALUE);
        due("add: to 65", x.addLink(0, 1, 0, 65), BAD_VALUE);
        due("add: to not greater", x.addLink(0, 1, 9, 9), BAD_VALUE);
        due("add: to less", x.addLink(0, 1, 9, 8), BAD_VALUE);
        due("add: least from", x.addLink(0, 1, Integer.MIN_VALUE, 1), BAD_VALUE);
        due("add: greatest to", x.addLink(0, 1, 0, Integer.MAX_VALUE), BAD_VALUE);
        due("add: refused ones are not recorded", x.count(7), 0);
        CHECK.hasLinks("add: refused ones", x);
        due("add: first", x.addLink(15, 0, 0, 1), 0);
        due("add: second", x.addLink(0, 15, 63, 64), 1);
        due("add: third", x.addLink(0, 15, 63, 64), 2);
        due("add: recorded", x.count(7), 3);
        CHECK.hasLinks("add", x, Check.link(15, 0, 0, 1), Check.link(0, 15, 63, 64), Check.link(0, 15, 63, 64));
    }

    private static void fill(LivedLinks x, int many) {
        for (int link = x.count(0); link < many; link++) {
            due("fill", x.addLink(link % 15, 15, link, 64), link);
        }
    }

    private static void promise2Full() {
        LivedLinks x = new LivedLinks();
        fill(x, 40);
        due("full: add", x.addLink(0, 1, 0, 1), FULL);
        due("full: unknown first", x.addLink(0, 16, 0, 1), UNKNOWN);
        due("full: bad value first", x.addLink(1, 1, 0, 1), BAD_VALUE);
        due("full: links", x.count(0), 40);
        due("full: last", x.link(39, 2), 39);
        due("full: states", x.count(7), 4);
        due("full: remove", x.removeLink(0), 39);
        due("full: add again", x.addLink(0, 1, 0, 1), 39);
    }

    private static void promise3RemoveLink() {
        LivedLinks x = CHECK.with(Check.link(0, 1, 0, 5), Check.link(2, 1, 1, 6), Check.link(3, 4, 2, 7));
        due("remove: -1", x.removeLink(-1), UNKNOWN);
        due("remove: 3", x.removeLink(3), UNKNOWN);
        due("remove: greatest", x.removeLink(Integer.MAX_VALUE), UNKNOWN);
        due("remove: refused ones are not recorded", x.count(7), 3);
        due("remove: 1", x.removeLink(1), 2);
        due("remove: recorded", x.count(7), 4);
        CHECK.hasLinks("remove: 1", x, Check.link(0, 1, 0, 5), Check.link(3, 4, 2, 7));
        due("remove: last", x.removeLink(1), 1);
        CHECK.hasLinks("remove: last", x, Check.link(0, 1, 0, 5));
        due("remove: first", x.removeLink(0), 0);
        CHECK.hasLinks("remove: first", x);
        due("remove: none left", x.removeLink(0), UNKNOWN);
    }

    private static void promise4SetLife() {
        LivedLinks x = CHECK.with(Check.link(0, 1, 10, 20), Check.link(2, 3, 0, 64));
        due("life: -1", x.setLife(-1, 0, 1), UNKNOWN);
        due("life: 2", x.setLife(2, 0, 1), UNKNOWN);
        due("life: unknown first", x.setLife(2, -1, 99), UNKNOWN);
        due("life: from -1", x.setLife(0, -1, 1), BAD_VALUE);
        due("life: from 64", x.setLife(0, 64, 65), BAD_VALUE);
        due("life: to 0", x.setLife(0, 0, 0), BAD_VALUE);
        due("life: to 65", x.setLife(0, 0, 65), BAD_VALUE);
        due("life: to not greater", x.setLife(0, 10, 10), BAD_VALUE);
        due("life: to less", x.setLife(0, 20, 10), BAD_VALUE);
        due("life: the same", x.setLife(0, 10, 20), NONE);
        due("life: refused ones are not recorded", x.count(7), 2);
        CHECK.hasLinks("life: refused", x, Check.link(0, 1, 10, 20), Check.link(2, 3, 0, 64));
        due("life: other from", x.setLife(0, 11, 20), 9);
        due("life: other to", x.setLife(0, 11, 21), 10);
        due("life: recorded", x.count(7), 4);
        due("life: least", x.setLife(1, 63, 64), 1);
        due("life: greatest", x.setLife(0, 0, 64), 64);
        CHECK.hasLinks("life", x, Check.link(0, 1, 0, 64), Check.link(2, 3, 63, 64));
    }

    private static void promise5Cut() {
        LivedLinks x = CHECK.with(Check.link(7, 1, 10, 20), Check.link(2, 3, 0, 64), Check.link(4, 5, 6, 7));
        due("cut: -1", x.cut(-1, 15), UNKNOWN);
        due("cut: 3", x.cut(3, 15), UNKNOWN);
        due("cut: unknown first", x.cut(3, 64), UNKNOWN);
        due("cut: moment -1", x.cut(0, -1), BAD_VALUE);
        due("cut: moment 64", x.cut(0, 64), BAD_VALUE);
        due("cut: ahead of its life", x.cut(0, 9), NOT_POSSIBLE);
        due("cut: its first moment", x.cut(0, 10), NOT_POSSIBLE);
        due("cut: behind its last moment", x.cut(0, 20), NOT_POSSIBLE);
        due("cut: moment 0", x.cut(1, 0), NOT_POSSIBLE);
        due("cut: a life of one moment", x.cut(2, 6), NOT_POSSIBLE);
        due("cut: refused ones are not recorded", x.count(7), 3);
        due("cut: its last moment", x.cut(0, 19), 3);
        due("cut: recorded", x.count(7), 4);
        CHECK.hasLinks("cut: last", x, Check.link(7, 1, 10, 19), Check.link(2, 3, 0, 64),
            Check.link(4, 5, 6, 7), Check.link(7, 1, 19, 20));
        due("cut: its second moment", x.cut(0, 11), 4);
        due("cut: the last moment of all", x.cut(1, 63), 5);
        CHECK.hasLinks("cut", x, Check.link(7, 1, 10, 11), Check.link(2, 3, 0, 63),
            Check.link(4, 5, 6, 7), Check.link(7, 1, 19, 20), Check.link(7, 1, 11, 19), Check.link(2, 3, 63, 64));
    }

    private static void promise5Full() {
        LivedLinks x = CHECK.with(Check.link(7, 1, 10, 20));
        fill(x, 40);
        due("cut: full", x.cut(0, 15), FULL);
        due("cut: not possible first", x.cut(0, 10), NOT_POSSIBLE);
        due("cut: bad value first", x.cut(0, 64), BAD_VALUE);
        due("cut: full, to", x.link(0, 3), 20);
        due("cut: room", x.removeLink(39), 39);
        due("cut: with room", x.cut(0, 15), 39);
    }

    private static void promise7Clear() {
        LivedLinks x = CHECK.with(Check.link(0, 1, 0, 5), Check.link(1, 2, 5, 6), Check.link(2, 3, 4, 6),
            Check.link(3, 4, 0, 64), Check.link(4, 5, 6, 9));
        due("clear: -1", x.clear(-1), UNKNOWN);
        due("clear: 64", x.clear(64), UNKNOWN);
        due("clear: 5", x.clear(5), 3);
        CHECK.hasLinks("clear: 5", x, Check.link(0, 1, 0, 5), Check.link(4, 5, 6, 9));
        due("clear: none", x.clear(5), NONE);
        due("clear: undo", x.undo(), 3);
        due("clear: undone", x.count(0), 5);
        due("clear: 4", x.clear(4), 3);
        CHECK.hasLinks("clear: 4", x, Check.link(1, 2, 5, 6), Check.link(4, 5, 6, 9));
        due("clear: recorded", x.count(7), 4);
        due("clear: 6", x.clear(6), 1);
        due("clear: 5 again", x.clear(5), 1);
        due("clear: nothing left", x.clear(5), NONE);
        CHECK.hasLinks("clear: all", x);
    }
}

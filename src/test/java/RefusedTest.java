import java.util.function.Supplier;
import java.util.function.ToIntFunction;

/**
 * A call that returns an error or NONE changes nothing: the links, the history, the snapshot and
 * the text behind it are those of before. Here are the calls whose answer hangs on the state;
 * those that wrong arguments refuse are in ArgumentsTest.
 */
public final class RefusedTest {
    private static final int BAD_VALUE = LivedLinks.BAD_VALUE;
    private static final int UNKNOWN = LivedLinks.UNKNOWN;
    private static final int FULL = LivedLinks.FULL;
    private static final int NOT_POSSIBLE = LivedLinks.NOT_POSSIBLE;
    private static final int NONE = LivedLinks.NONE;

    private static final Check CHECK = new Check("RefusedTest");

    public static void main(String[] args) {
        everyError();
        everyNone();
        everyFault();
        fullOfTheText();
        oneBehindTheOther();
        nothingIsDroppedOfAFullHistory();
        CHECK.close();
    }

    private static void refuses(String call, Supplier<LivedLinks> made, ToIntFunction<LivedLinks> calls, int want) {
        Seen.leaves(CHECK, call, made, calls, want);
    }

    /** The same errors in every state, whatever else there is. */
    private static void everyError() {
        for (Supplier<LivedLinks> made : Ways.all()) {
            refuses("addLink: UNKNOWN", made, x -> x.addLink(16, 0, 0, 1), UNKNOWN);
            refuses("addLink: BAD_VALUE", made, x -> x.addLink(0, 0, 0, 1), BAD_VALUE);
            refuses("removeLink: UNKNOWN", made, x -> x.removeLink(x.count(0)), UNKNOWN);
            refuses("setLife: UNKNOWN", made, x -> x.setLife(x.count(0), 0, 1), UNKNOWN);
            refuses("cut: UNKNOWN", made, x -> x.cut(x.count(0), 1), UNKNOWN);
            refuses("clear: UNKNOWN", made, x -> x.clear(64), UNKNOWN);
            refuses("link: UNKNOWN", made, x -> x.link(x.count(0), 5), UNKNOWN);
            refuses("joined: UNKNOWN", made, x -> x.joined(64, 0, 1), UNKNOWN);
            refuses("moment: BAD_VALUE", made, x -> x.moment(0, 6), BAD_VALUE);
            refuses("part: BAD_VALUE", made, x -> x.part(0, 0, 3), BAD_VALUE);
            refuses("needed: UNKNOWN", made, x -> x.needed(x.count(0), 0), UNKNOWN);
            refuses("together: BAD_VALUE", made, x -> x.together(0, 1, 5), BAD_VALUE);
            refuses("odd: UNKNOWN", made, x -> x.odd(64), UNKNOWN);
            refuses("span: BAD_VALUE", made, x -> x.span(0, 7, 0), BAD_VALUE);
            refuses("count: BAD_VALUE", made, x -> x.count(9), BAD_VALUE);
        }
        refuses("addLink: FULL", Ways::full, x -> x.addLink(0, 1, 0, 1), FULL);
        refuses("setLife: BAD_VALUE", Ways::full, x -> x.setLife(39, 64, 64), BAD_VALUE);
        refuses("cut: BAD_VALUE", Ways::full, x -> x.cut(39, 64), BAD_VALUE);
        refuses("cut: NOT_POSSIBLE", Ways::full, x -> x.cut(39, 62), NOT_POSSIBLE);
        refuses("cut: FULL", Ways::full, x -> x.cut(39, 63), FULL);
        refuses("type: FULL", Ways::full, x -> x.type('0'), FULL);
    }

    private static void everyNone() {
        refuses("setLife: NONE", Ways::some, x -> x.setLife(3, 10, 20), NONE);
        refuses("setLife: NONE of 40", Ways::full, x -> x.setLife(39, 62, 64), NONE);
        refuses("clear: NONE", Ways::undone, x -> x.clear(2), NONE);
        refuses("clear: NONE without links", Ways::emptied, x -> x.clear(9), NONE);
        refuses("undo: NONE", Ways::fresh, LivedLinks::undo, NONE);
        refuses("undo: NONE behind the last", Ways::undone, LivedLinks::undo, NONE);
        refuses("restore: NONE", Ways::fresh, LivedLinks::restore, NONE);
        refuses("restore: NONE with links", Ways::undone, LivedLinks::restore, NONE);
        refuses("needed: NONE", Ways::some, x -> x.needed(1, 1), NONE);
        refuses("together: NONE", Ways::some, x -> x.together(7, 6, 1), NONE);
        refuses("odd: NONE", Ways::some, x -> x.odd(14), NONE);
    }

    private static LivedLinks withText(Supplier<LivedLinks> made, String text) {
        LivedLinks x = made.get();
        x.clearText();
        Ways.types(x, text);
        return x;
    }

    /** A fault at each place of two links, in every state: also in one that has no room for them. */
    private static void everyFault() {
        String whole = "0-1@2:3,13-14@2:36";
        for (Supplier<LivedLinks> made : Ways.all()) {
            for (int place = 0; place < whole.length(); place++) {
                String broken = whole.substring(0, place) + "x" + whole.substring(place + 1);
                refuses("readLinks of " + broken, () -> withText(made, broken), LivedLinks::readLinks, -100 - place);
            }
            refuses("readLinks of nothing", () -> withText(made, ""), LivedLinks::readLinks, -100);
            refuses("readLinks of a comma more", () -> withText(made, whole + ","), LivedLinks::readLinks, -119);
        }
    }

    private static LivedLinks withLinks(int links, String text) {
        LivedLinks x = new LivedLinks();
        for (int link = 0; link < links; link++) {
            x.addLink(link % 7, 8 + link % 8, link, 64);
        }
        x.keep();
        Ways.types(x, text);
        return x;
    }

    private static void fullOfTheText() {
        StringBuilder text = new StringBuilder();
        for (int many = 1; many <= 7; many++) {
            text.append(many == 1 ? "" : ",").append("0-").append(many).append("@0:1");
            String links = text.toString();
            for (int link = 41 - many; link <= 40; link++) {
                int there = link;
                refuses(many + " more than " + there, () -> withLinks(there, links), LivedLinks::readLinks, FULL);
            }
            int there = 40 - many;
            CHECK.due(many + " more than " + there, withLinks(there, links).readLinks(), 40);
        }
    }

    /** Many refused calls on one object. */
    private static void oneBehindTheOther() {
        refuses("all of them", Ways::full, x -> {
            int sum = 0;
            for (int turn = 0; turn < 30; turn++) {
                sum += x.addLink(0, 1, 0, 1) + x.cut(39, 63) + x.type('x') + x.readLinks() + x.setLife(39, 62, 64);
                sum += x.removeLink(40) + x.clear(-1) + x.odd(64) + x.count(-1);
            }
            return sum;
        }, 30 * (FULL + FULL + FULL + FULL + NONE + UNKNOWN + UNKNOWN + UNKNOWN + BAD_VALUE));
    }

    private static void nothingIsDroppedOfAFullHistory() {
        LivedLinks x = Ways.full();
        x.addLink(0, 1, 0, 1);
        x.setLife(39, 62, 64);
        x.readLinks();
        x.cut(39, 63);
        CHECK.due("refused: states", x.count(7), 4);
        for (int left = 3; left >= 0; left--) {
            CHECK.due("refused: undo", x.undo(), left);
            CHECK.due("refused: links", x.count(0), 36 + left);
        }
        CHECK.due("refused: none", x.undo(), NONE);
        CHECK.due("refused: the snapshot", x.restore(), 39);
    }
}

import java.util.List;
import java.util.function.Supplier;

/** Objects in states at the edges, each made by the same calls every time. */
final class Ways {
    private Ways() {
    }

    static LivedLinks fresh() {
        return new LivedLinks();
    }

    /** Five links, three states of history, a snapshot of two links, and a text of two more. */
    static LivedLinks some() {
        LivedLinks x = new LivedLinks();
        x.addLink(0, 15, 0, 64);
        x.addLink(15, 0, 0, 1);
        x.keep();
        x.addLink(1, 2, 5, 63);
        x.addLink(2, 3, 10, 20);
        x.addLink(3, 1, 12, 14);
        x.addLink(9, 8, 7, 64);
        x.undo();
        types(x, "3-4@5:6,7-8@9:10");
        return x;
    }

    /** 40 links, 60 characters, 4 states of history, and a snapshot of 39 links. */
    static LivedLinks full() {
        LivedLinks x = new LivedLinks();
        for (int link = 0; link < 39; link++) {
            x.addLink(link % 15, 15, link, link + 20 < 64 ? link + 20 : 64);
        }
        x.keep();
        x.addLink(15, 14, 62, 64);
        types(x, "10-11@12:13,12-13@14:15,14-15@16:17,1-2@3:4,5-6@7:8,9-8@7:64");
        return x;
    }

    /** No link any more, 4 states of history, a snapshot without links, and a text with a fault. */
    static LivedLinks emptied() {
        LivedLinks x = new LivedLinks();
        x.keep();
        for (int link = 0; link < 5; link++) {
            x.addLink(link, 5, link, 10 + link);
        }
        x.clear(9);
        types(x, "0-1@0:1,5");
        return x;
    }

    /** All states of history undone, and no snapshot and no text. */
    static LivedLinks undone() {
        LivedLinks x = new LivedLinks();
        for (int link = 0; link < 6; link++) {
            x.addLink(link, 7, 0, 1 + link);
        }
        for (int state = 0; state < 4; state++) {
            x.undo();
        }
        return x;
    }

    static List<Supplier<LivedLinks>> all() {
        return List.of(Ways::fresh, Ways::some, Ways::full, Ways::emptied, Ways::undone);
    }

    static void types(LivedLinks x, String text) {
        for (int index = 0; index < text.length(); index++) {
            x.type(text.charAt(index));
        }
    }
}

/** Counts answers that are due and answers that are not, and prints each of the latter. */
final class Check {
    private final String test;
    private int passed;
    private int failed;

    Check(String test) {
        this.test = test;
    }

    void due(String call, long got, long want) {
        if (got == want) {
            passed++;
        } else {
            failed++;
            System.out.println(test + ": " + call + " answered " + got + ", due is " + want);
        }
    }

    void holds(String claim, boolean holds) {
        due(claim, holds ? 1 : 0, 1);
    }

    /** Types a text character by character, into an object whose text is empty. */
    void types(LivedLinks x, String text) {
        for (int index = 0; index < text.length(); index++) {
            due("type " + (int) text.charAt(index), x.type(text.charAt(index)), index + 1);
        }
    }

    /** An object with links, each told by its points and its life. */
    LivedLinks with(int[]... links) {
        LivedLinks x = new LivedLinks();
        for (int link = 0; link < links.length; link++) {
            int[] told = links[link];
            due("addLink", x.addLink(told[0], told[1], told[2], told[3]), link);
        }
        return x;
    }

    static int[] link(int one, int other, int from, int to) {
        return new int[] {one, other, from, to};
    }

    /** Whether an object has just these links, in this order. */
    void hasLinks(String where, LivedLinks x, int[]... links) {
        due(where + ": count(0)", x.count(0), links.length);
        for (int link = 0; link < links.length; link++) {
            for (int what = 0; what < 4; what++) {
                due(where + ": link(" + link + ", " + what + ")", x.link(link, what), links[link][what]);
            }
        }
        due(where + ": link behind the last", x.link(links.length, 0), LivedLinks.UNKNOWN);
    }

    void close() {
        System.out.println(test + ": " + passed + " passed, " + failed + " failed");
        if (failed != 0 || passed == 0) {
            System.exit(1);
        }
    }
}

/** All promises: long runs of calls, each answered by the program as by the model. */
public final class ModelTest {
    private static final int RUNS = 300;
    private static final int CALLS = 512;
    private static final int[] EDGES = {-1, 0, 1, 15, 16, 39, 40, 63, 64, 65, -2, Integer.MIN_VALUE, Integer.MAX_VALUE};

    private static final Check CHECK = new Check("ModelTest");

    private final int run;
    private final LivedLinks x = new LivedLinks();
    private final Model model = new Model();
    /** In some runs few points and short lives, in others many links. */
    private final int points;
    private final int acts;
    private long seed;
    private String toType = "";

    private ModelTest(int run) {
        this.run = run;
        seed = 77 + 1000003L * run;
        points = run % 3 == 0 ? 16 : 4 + run % 5;
        acts = run % 4 == 0 ? 70 : 30;
    }

    public static void main(String[] args) {
        for (int run = 0; run < RUNS; run++) {
            ModelTest test = new ModelTest(run);
            for (int call = 0; call < CALLS; call++) {
                test.callOne();
            }
        }
        CHECK.close();
    }

    /** The same numbers for each run of the tests. */
    private int any(int below) {
        seed = seed * 6364136223846793005L + 1442695040888963407L;
        return (int) ((seed >>> 33) % below);
    }

    private int mostly(int below) {
        return any(40) == 0 ? EDGES[any(EDGES.length)] : any(below);
    }

    private int point() {
        return mostly(points);
    }

    private int moment() {
        return any(8) == 0 ? any(2) * 63 : mostly(64);
    }

    private int link() {
        return mostly(Math.max(1, model.count(0)));
    }

    private void due(String call, int got, int want) {
        CHECK.due("run " + run + ": " + call, got, want);
    }

    private void callOne() {
        if (!toType.isEmpty()) {
            char character = toType.charAt(0);
            toType = toType.substring(1);
            due("type " + (int) character, x.type(character), model.type(character));
        } else if (any(100) < acts) {
            callAct();
        } else if (any(10) == 0) {
            callText();
        } else {
            callTold();
        }
    }

    private void callAct() {
        int link = link();
        int from = moment();
        int to = any(12) == 0 ? mostly(65) : from + 1 + any(run % 2 == 0 ? 12 : 63);
        switch (any(acts > 50 ? 24 : 14)) {
            case 0, 1 -> due("removeLink", x.removeLink(link), model.removeLink(link));
            case 2 -> {
                int asNow = model.link(link, 3);
                int other = any(3) == 0 ? asNow : to;
                int begin = other == asNow && any(2) == 0 ? model.link(link, 2) : from;
                due("setLife", x.setLife(link, begin, other), model.setLife(link, begin, other));
            }
            case 3, 4 -> {
                int moment = any(2) == 0 ? moment() : model.link(link, 2 + any(2)) + any(3) - 1;
                due("cut", x.cut(link, moment), model.cut(link, moment));
            }
            case 5 -> due("clear", x.clear(from), model.clear(from));
            case 6 -> due("undo", x.undo(), model.undo());
            case 7 -> due("keep", x.keep(), model.keep());
            case 8 -> due("restore", x.restore(), model.restore());
            case 9 -> due("readLinks", x.readLinks(), model.readLinks());
            default -> {
                int one = point();
                int other = point();
                due("addLink", x.addLink(one, other, from, to), model.addLink(one, other, from, to));
            }
        }
    }

    private void callText() {
        switch (any(5)) {
            case 0 -> due("clearText", x.clearText(), model.clearText());
            case 1, 2 -> due("readLinks", x.readLinks(), model.readLinks());
            default -> {
                due("clearText", x.clearText(), model.clearText());
                toType = anyText(1 + any(4));
            }
        }
    }

    private String anyText(int links) {
        StringBuilder text = new StringBuilder();
        for (int link = 0; link < links; link++) {
            int from = any(70);
            text.append(link == 0 ? "" : ",").append(any(points)).append('-').append(any(any(4) == 0 ? 20 : 16))
                .append('@').append(from).append(':').append(any(5) == 0 ? any(70) : from + 1 + any(20));
        }
        if (any(3) == 0) {
            text.setCharAt(any(text.length()), "0123456789-@:, ".charAt(any(15)));
        }
        if (any(5) == 0) {
            text.setLength(any(text.length() + 1));
        }
        return text.toString();
    }

    private void callTold() {
        int link = link();
        int moment = moment();
        int one = point();
        int other = point();
        switch (any(12)) {
            case 0, 1 -> tellLink(link);
            case 2 -> due("joined", x.joined(moment, one, other), model.joined(moment, one, other));
            case 3, 4 -> {
                int what = mostly(6);
                due("moment " + moment + " " + what, x.moment(moment, what), model.moment(moment, what));
            }
            case 5 -> {
                int what = mostly(3);
                due("part " + what, x.part(moment, one, what), model.part(moment, one, what));
            }
            case 6 -> due("needed", x.needed(link, moment), model.needed(link, moment));
            case 7 -> {
                int what = mostly(5);
                due("together " + what, x.together(one, other, what), model.together(one, other, what));
            }
            case 8 -> due("odd", x.odd(moment), model.odd(moment));
            case 9, 10 -> {
                int depth = mostly(7);
                int what = mostly(5);
                due("span " + depth + " " + what, x.span(moment, depth, what), model.span(moment, depth, what));
            }
            default -> {
                int what = mostly(9);
                due("count " + what, x.count(what), model.count(what));
            }
        }
    }

    private void tellLink(int link) {
        int what = mostly(6);
        due("link " + what, x.link(link, what), model.link(link, what));
    }
}

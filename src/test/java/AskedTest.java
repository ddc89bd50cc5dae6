import java.util.ArrayList;
import java.util.List;
import java.util.function.Supplier;
import java.util.function.ToIntFunction;

/**
 * What is told: it changes nothing, and is told again when it is asked for again, whatever else
 * was asked for between; what is done to one object is no matter of another one.
 */
public final class AskedTest {
    private static final int[] MOMENTS = {0, 12, 13, 31, 32, 63};

    private static final Check CHECK = new Check("AskedTest");

    private record Question(String call, ToIntFunction<LivedLinks> asked) { }

    public static void main(String[] args) {
        for (Supplier<LivedLinks> made : Ways.all()) {
            changesNothing(made);
            isToldAgain(made);
            isToldOfTheNewStateAlone(made);
        }
        objectsKnowNothingOfEachOther();
        CHECK.close();
    }

    private static List<Question> questions() {
        List<Question> all = new ArrayList<>();
        for (int what = -1; what <= 9; what++) {
            int number = what;
            all.add(new Question("count(" + what + ")", x -> x.count(number)));
        }
        for (int moment : MOMENTS) {
            questionsOf(moment, all);
        }
        for (int what = 0; what <= 4; what++) {
            int number = what;
            all.add(new Question("together(0, 15, " + what + ")", x -> x.together(0, 15, number)));
            all.add(new Question("together(1, 3, " + what + ")", x -> x.together(1, 3, number)));
        }
        for (int link = 0; link <= 40; link += 4) {
            int number = link;
            for (int what = 0; what <= 5; what++) {
                int chosen = what;
                all.add(new Question("link(" + link + ", " + what + ")", x -> x.link(number, chosen)));
            }
            all.add(new Question("needed(" + link + ", 13)", x -> x.needed(number, 13)));
        }
        return all;
    }

    private static void questionsOf(int moment, List<Question> all) {
        all.add(new Question("odd(" + moment + ")", x -> x.odd(moment)));
        all.add(new Question("joined(" + moment + ", 1, 3)", x -> x.joined(moment, 1, 3)));
        for (int what = 0; what <= 5; what++) {
            int number = what;
            all.add(new Question("moment(" + moment + ", " + what + ")", x -> x.moment(moment, number)));
            all.add(new Question("part(" + moment + ", 3, " + what + ")", x -> x.part(moment, 3, number)));
            for (int depth = 0; depth <= 6; depth += 2) {
                int halved = depth;
                all.add(new Question("span(" + moment + ", " + depth + ", " + what + ")",
                    x -> x.span(moment, halved, number)));
            }
        }
    }

    private static void changesNothing(Supplier<LivedLinks> made) {
        for (Question question : questions()) {
            Seen.leaves(CHECK, question.call, made, question.asked, question.asked.applyAsInt(made.get()));
        }
    }

    /** A hundred are asked of one object, and then again from the last one to the first. */
    private static void isToldAgain(Supplier<LivedLinks> made) {
        List<Question> all = questions();
        for (int begin = 0; begin < all.size(); begin += 100) {
            areToldAgain(made, all.subList(begin, Math.min(begin + 100, all.size())));
        }
    }

    private static void areToldAgain(Supplier<LivedLinks> made, List<Question> questions) {
        LivedLinks x = made.get();
        int[] told = new int[questions.size()];
        for (int question = 0; question < told.length; question++) {
            told[question] = questions.get(question).asked.applyAsInt(x);
            CHECK.due("of one just made: " + questions.get(question).call,
                questions.get(question).asked.applyAsInt(made.get()), told[question]);
        }
        for (int question = told.length - 1; question >= 0; question--) {
            CHECK.due("again: " + questions.get(question).call, questions.get(question).asked.applyAsInt(x), told[question]);
        }
    }

    /** An act between, and undone: each is told as of one that was never asked. */
    private static void isToldOfTheNewStateAlone(Supplier<LivedLinks> made) {
        for (Question question : questions()) {
            LivedLinks x = made.get();
            question.asked.applyAsInt(x);
            x.removeLink(0);
            LivedLinks other = made.get();
            other.removeLink(0);
            CHECK.due("behind an act: " + question.call, question.asked.applyAsInt(x), question.asked.applyAsInt(other));
            x.undo();
            other.undo();
            CHECK.due("behind undo: " + question.call, question.asked.applyAsInt(x), question.asked.applyAsInt(other));
        }
    }

    private static void objectsKnowNothingOfEachOther() {
        for (Supplier<LivedLinks> one : Ways.all()) {
            for (Supplier<LivedLinks> another : Ways.all()) {
                String alone = Seen.of(one);
                String between = Seen.of(() -> {
                    LivedLinks x = one.get();
                    LivedLinks y = another.get();
                    y.addLink(4, 5, 6, 7);
                    y.keep();
                    y.type('9');
                    y.count(1);
                    return x;
                });
                CHECK.holds("alone as beside another one", alone.equals(between));
            }
        }
    }
}

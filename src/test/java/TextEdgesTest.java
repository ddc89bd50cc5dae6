import java.util.ArrayList;
import java.util.List;

/** Promise 6 at its edges: every number of one and two digits at each place, and every character. */
public final class TextEdgesTest {
    private static final Check CHECK = new Check("TextEdgesTest");

    public static void main(String[] args) {
        endsOfRanges();
        asTheDocumentTells();
        twoDigitsIfTheyCan();
        lastDigitThatIsPartOfIt();
        laterLinks();
        everyPairOfPoints();
        everyPairOfMoments();
        everyCharacter();
        CHECK.close();
    }

    private static LivedLinks typed(String text) {
        LivedLinks x = new LivedLinks();
        Ways.types(x, text);
        return x;
    }

    private static void fault(String text, int place) {
        LivedLinks x = typed(text);
        CHECK.due("readLinks of '" + text + "'", x.readLinks(), -100 - place);
        CHECK.due("links of '" + text + "'", x.count(0), 0);
        CHECK.due("states of '" + text + "'", x.count(7), 0);
        CHECK.due("length of '" + text + "'", x.count(8), text.length());
    }

    private static void reads(String text, int[]... links) {
        LivedLinks x = typed(text);
        CHECK.due("readLinks of '" + text + "'", x.readLinks(), links.length);
        CHECK.hasLinks("'" + text + "'", x, links);
    }

    private static void endsOfRanges() {
        reads("0-15@0:1", Check.link(0, 15, 0, 1));
        reads("15-0@0:64", Check.link(15, 0, 0, 64));
        reads("9-10@9:10", Check.link(9, 10, 9, 10));
        reads("10-9@62:63", Check.link(10, 9, 62, 63));
        reads("14-15@63:64", Check.link(14, 15, 63, 64));
        fault("16-0@0:1", 1);
        fault("19-0@0:1", 1);
        fault("20-0@0:1", 1);
        fault("99-0@0:1", 1);
        fault("0-16@0:1", 3);
        fault("0-20@0:1", 3);
        fault("0-1@64:64", 5);
        fault("0-1@65:66", 5);
        fault("0-1@99:9", 5);
        fault("0-1@0:65", 7);
        fault("0-1@0:70", 7);
        fault("0-1@0:99", 7);
        fault("0-1@0:0", 6);
        fault("0-1@0:00", 6);
        fault("0-1@0:01", 6);
        fault("0-1@63:0", 7);
        fault("0-1@1:0", 6);
    }

    private static void asTheDocumentTells() {
        fault("", 0);
        fault("0-1@7:71", 6);
        fault("0-1@7:7", 6);
        fault("0-1@7:6", 6);
        reads("0-1@7:8", Check.link(0, 1, 7, 8));
        reads("0-1@7:64", Check.link(0, 1, 7, 64));
        fault("0-1@7:65", 6);
    }

    private static void twoDigitsIfTheyCan() {
        reads("1-10@1:10", Check.link(1, 10, 1, 10));
        reads("10-1@10:11", Check.link(10, 1, 10, 11));
        fault("100-1@0:1", 2);
        fault("1-100@0:1", 4);
        fault("0-1@100:1", 6);
        fault("0-1@1:100", 8);
        fault("0-1@6:640", 8);
        fault("01-2@0:1", 1);
        fault("2-00@0:1", 3);
        fault("0-1@00:1", 5);
        fault("0-1@01:2", 5);
    }

    private static void lastDigitThatIsPartOfIt() {
        // The same point, also where a third digit, a sign or nothing stands behind it.
        fault("5-5@0:1", 2);
        fault("5-5", 2);
        fault("5-51", 2);
        fault("1-1", 2);
        fault("1-19", 2);
        fault("15-15@0:1", 4);
        fault("15-15", 4);
        fault("15-155", 4);
        fault("0-0", 2);
        fault("0-00", 2);
        fault("1-", 2);
        reads("1-15@0:1", Check.link(1, 15, 0, 1));
        fault("15-1", 4);
        // An end that is not greater.
        fault("0-1@63:6", 7);
        fault("0-1@63:63", 8);
        fault("0-1@63:62", 8);
        fault("0-1@63:641", 9);
        fault("0-1@63:65", 7);
        fault("0-1@63:9", 7);
        fault("0-1@63:", 7);
        fault("0-1@10:9", 7);
        fault("0-1@10:1", 7);
        fault("0-1@10:10", 8);
        fault("0-1@10:1,", 7);
        fault("0-1@9:9:", 6);
        reads("0-1@10:11", Check.link(0, 1, 10, 11));
    }

    /** A fault of a later link: the links ahead of it are not added, and its place is that of the text. */
    private static void laterLinks() {
        String ahead = "0-1@0:1,2-3@62:63,";
        fault(ahead, 18);
        fault(ahead + ",", 18);
        fault(ahead + "4", 19);
        fault(ahead + "4-4@", 20);
        fault(ahead + "15-15", 22);
        fault(ahead + "4-5@9:90", 24);
        fault(ahead + "4-5@9:10;", 26);
        reads(ahead + "4-5@9:10", Check.link(0, 1, 0, 1), Check.link(2, 3, 62, 63), Check.link(4, 5, 9, 10));
        String six = "0-1@0:1,0-1@0:1,0-1@0:1,0-1@0:1,0-1@0:1,0-1@0:1,";
        fault(six + "10-11@50:51,", 60);
        fault(six + "10-11@60:60,", 58);
        fault(six + "10-11@10:11x", 59);
        fault(six + "10-11@9:10,1", 60);
    }

    /** All numbers of one and two digits, with a zero in front too, and some longer ones. */
    private static List<String> numbers() {
        List<String> numbers = new ArrayList<>(List.of("", "000", "100", "015", "150", "151", "640", "635", "0x", "x"));
        for (int number = 0; number < 100; number++) {
            numbers.add(Integer.toString(number));
            if (number < 10) {
                numbers.add("0" + number);
            }
        }
        return numbers;
    }

    private static void asTheModel(String text) {
        LivedLinks x = typed(text);
        Model model = new Model();
        for (int index = 0; index < text.length(); index++) {
            model.type(text.charAt(index));
        }
        CHECK.due("readLinks of '" + text + "'", x.readLinks(), model.readLinks());
        for (int what = 0; what < 4; what++) {
            CHECK.due("link(0, " + what + ") of '" + text + "'", x.link(0, what), model.link(0, what));
        }
    }

    private static void everyPairOfPoints() {
        for (String one : numbers()) {
            for (String other : numbers()) {
                asTheModel(one + "-" + other + "@0:1");
                asTheModel(one + "-" + other);
            }
        }
    }

    private static void everyPairOfMoments() {
        for (String from : numbers()) {
            for (String to : numbers()) {
                asTheModel("0-1@" + from + ":" + to);
                asTheModel("0-1@" + from + ":" + to + ",2-3@0:1");
            }
        }
    }

    /** At each place, no other character than that which is due there, or a digit, is allowed. */
    private static void everyCharacter() {
        String text = "0-1@2:3,";
        int wrong = 0;
        for (int place = 0; place < text.length(); place++) {
            for (int character = 0; character <= Character.MAX_VALUE; character++) {
                if (character != text.charAt(place) && (character < '0' || character > '9')) {
                    String broken = text.substring(0, place) + (char) character + text.substring(place + 1);
                    wrong += typed(broken).readLinks() == -100 - place ? 0 : 1;
                }
            }
        }
        CHECK.due("characters that are allowed where they are not", wrong, 0);
    }
}

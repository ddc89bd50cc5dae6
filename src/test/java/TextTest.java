/** Promises 6, 8 and 9: the text, and the links that are read from it. */
public final class TextTest {
    private static final int FULL = LivedLinks.FULL;

    private static final Check CHECK = new Check("TextTest");

    public static void main(String[] args) {
        promise6Faults();
        promise6EarlyEnds();
        promise6Characters();
        promise6Added();
        promise6Full();
        promise8Type();
        promise9ClearText();
        CHECK.close();
    }

    private static void due(String call, long got, long want) {
        CHECK.due(call, got, want);
    }

    private static void faultAt(String text, int fault) {
        LivedLinks x = CHECK.with(Check.link(1, 2, 3, 4));
        CHECK.types(x, text);
        due("readLinks of '" + text + "'", x.readLinks(), -100 - fault);
        CHECK.hasLinks("'" + text + "'", x, Check.link(1, 2, 3, 4));
        due("states behind '" + text + "'", x.count(7), 1);
        due("length of '" + text + "'", x.count(8), text.length());
    }

    private static void promise6Faults() {
        // A second digit that leads out of the range stands where a sign is due.
        faultAt("16-1@0:1", 1);
        faultAt("1-16@0:1", 2);
        faultAt("2-16@0:1", 3);
        faultAt("0-1@64:65", 5);
        faultAt("0-1@70:71", 5);
        faultAt("0-1@5:65", 7);
        faultAt("0-1@5:640", 8);
        faultAt("0-1@5:99", 7);
        // No zero in front.
        faultAt("00-1@0:1", 1);
        faultAt("0-01@0:1", 2);
        faultAt("1-01@0:1", 3);
        faultAt("0-1@00:1", 5);
        faultAt("0-1@0:01", 6);
        // The same point: its last digit.
        faultAt("1-1@0:1", 2);
        faultAt("1-1", 2);
        faultAt("11-11@0:1", 4);
        faultAt("11-11", 4);
        faultAt("0-0", 2);
        faultAt("1-16", 2);
        faultAt("1-1x", 2);
        // An end that is not greater: its last digit.
        faultAt("0-1@7:71", 6);
        faultAt("0-1@7:7", 6);
        faultAt("0-1@7:6,", 6);
        faultAt("0-1@0:0", 6);
        faultAt("0-1@30:3", 7);
        faultAt("0-1@30:30", 8);
        faultAt("0-1@30:29,", 8);
        faultAt("0-1@30:300", 8);
        faultAt("0-1@63:63", 8);
        faultAt("0-1@63:65", 7);
        // Signs.
        faultAt(",0-1@0:1", 0);
        faultAt("0,1@0:1", 1);
        faultAt("0-1:0:1", 3);
        faultAt("0-1@0@1", 5);
        faultAt("0-1@0:1;", 7);
        faultAt("0-1@0:1 ", 7);
        faultAt("0-1@0:1,,", 8);
        faultAt("0-1@0:1,2-2@0:1", 10);
        faultAt("0-1@0:1,0-1@0:1,1-0@9:8", 22);
        faultAt(" 0-1@0:1", 0);
        faultAt("0--1@0:1", 2);
        faultAt("-0-1@0:1", 0);
        faultAt("0-1@0:123", 8);
    }

    private static void promise6EarlyEnds() {
        String whole = "10-11@12:13,0-1@2:34";
        for (int length = 0; length < whole.length(); length++) {
            String text = whole.substring(0, length);
            // Cut off behind a digit that cannot be the last one, the fault is that digit.
            if (length == 10) {
                faultAt(text, 9);
            } else if (length == 11) {
                reads(text, Check.link(10, 11, 12, 13));
            } else if (length == 19) {
                reads(text, Check.link(10, 11, 12, 13), Check.link(0, 1, 2, 3));
            } else {
                faultAt(text, length);
            }
        }
        reads(whole, Check.link(10, 11, 12, 13), Check.link(0, 1, 2, 34));
    }

    private static void reads(String text, int[]... links) {
        LivedLinks x = new LivedLinks();
        CHECK.types(x, text);
        due("readLinks of '" + text + "'", x.readLinks(), links.length);
        CHECK.hasLinks("'" + text + "'", x, links);
        due("states behind '" + text + "'", x.count(7), 1);
        due("length of '" + text + "'", x.count(8), text.length());
    }

    private static void promise6Characters() {
        char[] strange = {0, 9, '/', ';', '.', 'a', 127, 128, 178, 255, 256, 0x0660, 0x0131, 0xFF11, 0x8030, 0xFFFF};
        for (char character : strange) {
            faultAt(character + "-1@0:1", 0);
            faultAt("0" + character + "1@0:1", 1);
            faultAt("0-" + character + "@0:1", 2);
            faultAt("0-1" + character + "0:1", 3);
            faultAt("0-1@" + character + ":1", 4);
            faultAt("0-1@0" + character + "1", 5);
            faultAt("0-1@0:" + character, 6);
            faultAt("0-1@0:1" + character, 7);
        }
    }

    private static void promise6Added() {
        reads("0-1@0:1", Check.link(0, 1, 0, 1));
        reads("15-10@63:64", Check.link(15, 10, 63, 64));
        reads("1-15@6:60", Check.link(1, 15, 6, 60));
        reads("9-14@7:10,8-7@9:59", Check.link(9, 14, 7, 10), Check.link(8, 7, 9, 59));
        LivedLinks x = CHECK.with(Check.link(1, 2, 3, 4));
        CHECK.types(x, "5-6@7:8,2-1@3:4");
        due("added behind the others", x.readLinks(), 3);
        CHECK.hasLinks("added", x, Check.link(1, 2, 3, 4), Check.link(5, 6, 7, 8), Check.link(2, 1, 3, 4));
        due("added again", x.readLinks(), 5);
        due("added: recorded", x.count(7), 3);
        due("added: undo", x.undo(), 2);
        due("added: undone", x.count(0), 3);
        due("added: the text stays", x.count(8), 15);
    }

    private static void promise6Full() {
        LivedLinks x = new LivedLinks();
        CHECK.types(x, "0-1@0:1,0-2@0:1,0-3@0:1,0-4@0:1,0-5@0:1,0-6@0:1,0-7@0:1");
        for (int turn = 1; turn <= 5; turn++) {
            due("seven more", x.readLinks(), 7 * turn);
        }
        due("full: seven of five", x.readLinks(), FULL);
        due("full: none was added", x.count(0), 35);
        due("full: states", x.count(7), 4);
        due("full: clearText", x.clearText(), 55);
        CHECK.types(x, "0-1@0:1,0-2@0:1,0-3@0:1,0-4@0:1,0-5@0:1");
        due("full: just five", x.readLinks(), 40);
        due("full: more", x.readLinks(), FULL);
        due("full: type", x.type(','), 40);
        due("full: the fault first", x.readLinks(), -140);
    }

    private static void promise8Type() {
        LivedLinks x = new LivedLinks();
        for (int length = 1; length <= 60; length++) {
            due("type", x.type((char) (length * 1000)), length);
            due("length", x.count(8), length);
        }
        due("type: full", x.type('0'), FULL);
        due("type: full again", x.type((char) 65535), FULL);
        due("type: length", x.count(8), 60);
        due("type: no act", x.count(7), 0);
        // The last one of 60 characters is read as well.
        due("type: clearText", x.clearText(), 60);
        CHECK.types(x, "10-11@12:13,10-11@12:13,10-11@12:13,10-11@12:13,10-11@12:13,");
        due("type: sixty", x.readLinks(), -160);
    }

    private static void promise9ClearText() {
        LivedLinks x = new LivedLinks();
        due("clearText: empty", x.clearText(), 0);
        CHECK.types(x, "0-1@0:1");
        due("clearText: no act ahead", x.count(7), 0);
        due("clearText: seven", x.clearText(), 7);
        due("clearText: then", x.count(8), 0);
        due("clearText: again", x.clearText(), 0);
        due("clearText: no act", x.count(7), 0);
        due("clearText: nothing is left of it", x.readLinks(), -100);
        CHECK.types(x, "0-1");
        due("clearText: nor behind", x.readLinks(), -103);
    }
}

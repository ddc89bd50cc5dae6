import java.util.ArrayDeque;
import java.util.ArrayList;
import java.util.Deque;
import java.util.List;
import java.util.regex.Matcher;
import java.util.regex.Pattern;

/**
 * The document once more, by other means than the program's: states are lists that are never
 * changed, joined is what a search reaches, spans are gone through by recursion, and texts are
 * matched by patterns.
 */
final class Model {
    private static final int UNKNOWN = -1;
    private static final int BAD_VALUE = -2;
    private static final int FULL = -3;
    private static final int NOT_POSSIBLE = -4;
    private static final int NONE = -5;

    /** What stands at each place of a text's link: a number by its range, or a sign. */
    private static final Pattern POINT = Pattern.compile("1[0-5]|[0-9]");
    private static final Pattern BEGIN = Pattern.compile("6[0-3]|[1-5][0-9]|[0-9]");
    private static final Pattern END = Pattern.compile("6[0-4]|[1-5][0-9]|[0-9]");

    private record Life(int one, int other, int from, int to) {
        boolean at(int moment) {
            return moment >= from && moment < to;
        }
    }

    private static final class Fault extends Exception {
        private static final long serialVersionUID = 1;
        private final int place;

        Fault(int place) {
            this.place = place;
        }
    }

    private List<Life> lives = List.of();
    private List<Life> snapshot;
    private final Deque<List<Life>> history = new ArrayDeque<>();
    private String text = "";
    private int place;

    private void act(List<Life> next) {
        history.addLast(lives);
        if (history.size() > 4) {
            history.removeFirst();
        }
        lives = List.copyOf(next);
    }

    private static boolean in(int value, int least, int greatest) {
        return value >= least && value <= greatest;
    }

    private boolean isLink(int link) {
        return in(link, 0, lives.size() - 1);
    }

    int addLink(int one, int other, int from, int to) {
        if (!in(one, 0, 15) || !in(other, 0, 15)) {
            return UNKNOWN;
        }
        if (!in(from, 0, 63) || !in(to, 1, 64) || one == other || to <= from) {
            return BAD_VALUE;
        }
        if (lives.size() == 40) {
            return FULL;
        }
        List<Life> next = new ArrayList<>(lives);
        next.add(new Life(one, other, from, to));
        act(next);
        return next.size() - 1;
    }

    int removeLink(int link) {
        if (!isLink(link)) {
            return UNKNOWN;
        }
        List<Life> next = new ArrayList<>(lives);
        next.remove(link);
        act(next);
        return next.size();
    }

    int setLife(int link, int from, int to) {
        if (!isLink(link)) {
            return UNKNOWN;
        }
        if (!in(from, 0, 63) || !in(to, 1, 64) || to <= from) {
            return BAD_VALUE;
        }
        Life old = lives.get(link);
        Life now = new Life(old.one, old.other, from, to);
        if (now.equals(old)) {
            return NONE;
        }
        List<Life> next = new ArrayList<>(lives);
        next.set(link, now);
        act(next);
        return to - from;
    }

    int cut(int link, int moment) {
        if (!isLink(link)) {
            return UNKNOWN;
        }
        if (!in(moment, 0, 63)) {
            return BAD_VALUE;
        }
        Life old = lives.get(link);
        if (!old.at(moment) || !old.at(moment - 1)) {
            return NOT_POSSIBLE;
        }
        if (lives.size() == 40) {
            return FULL;
        }
        List<Life> next = new ArrayList<>(lives);
        next.set(link, new Life(old.one, old.other, old.from, moment));
        next.add(new Life(old.one, old.other, moment, old.to));
        act(next);
        return next.size() - 1;
    }

    int readLinks() {
        List<Life> next = new ArrayList<>(lives);
        try {
            place = 0;
            next.add(readLife());
            while (place < text.length()) {
                readSign(',');
                next.add(readLife());
            }
        } catch (Fault fault) {
            return -100 - fault.place;
        }
        if (next.size() > 40) {
            return FULL;
        }
        act(next);
        return next.size();
    }

    private Life readLife() throws Fault {
        int one = readNumber(POINT);
        readSign('-');
        int other = readNumber(POINT);
        if (one == other) {
            throw new Fault(place - 1);
        }
        readSign('@');
        int from = readNumber(BEGIN);
        readSign(':');
        int to = readNumber(END);
        if (to <= from) {
            throw new Fault(place - 1);
        }
        return new Life(one, other, from, to);
    }

    private int readNumber(Pattern pattern) throws Fault {
        Matcher matcher = pattern.matcher(text).region(place, text.length());
        if (!matcher.lookingAt()) {
            throw new Fault(place);
        }
        place = matcher.end();
        return Integer.parseInt(matcher.group());
    }

    private void readSign(char sign) throws Fault {
        if (!text.startsWith(String.valueOf(sign), place)) {
            throw new Fault(place);
        }
        place++;
    }

    int clear(int moment) {
        if (!in(moment, 0, 63)) {
            return UNKNOWN;
        }
        List<Life> next = new ArrayList<>(lives);
        next.removeIf(life -> life.at(moment));
        if (next.size() == lives.size()) {
            return NONE;
        }
        int removed = lives.size() - next.size();
        act(next);
        return removed;
    }

    int type(char character) {
        if (text.length() == 60) {
            return FULL;
        }
        text += character;
        return text.length();
    }

    int clearText() {
        int length = text.length();
        text = "";
        return length;
    }

    int undo() {
        if (history.isEmpty()) {
            return NONE;
        }
        lives = history.removeLast();
        return history.size();
    }

    int keep() {
        snapshot = lives;
        return lives.size();
    }

    int restore() {
        if (snapshot == null) {
            return NONE;
        }
        act(snapshot);
        return lives.size();
    }

    private List<Life> livingAt(int moment) {
        return lives.stream().filter(life -> life.at(moment)).toList();
    }

    /** Which of the points, and of the same 16 points behind an odd number of links, are reached. */
    private static boolean[] reached(int point, List<Life> links) {
        boolean[] reached = new boolean[32];
        Deque<Integer> open = new ArrayDeque<>(List.of(point));
        reached[point] = true;
        while (!open.isEmpty()) {
            int here = open.removeFirst();
            for (Life link : links) {
                int next = here % 16 == link.one ? link.other : here % 16 == link.other ? link.one : -1;
                int behind = next + (here < 16 ? 16 : 0);
                if (next >= 0 && !reached[behind]) {
                    reached[behind] = true;
                    open.add(behind);
                }
            }
        }
        return reached;
    }

    private static boolean reaches(int one, int other, List<Life> links) {
        boolean[] reached = reached(one, links);
        return reached[other] || reached[other + 16];
    }

    private static int bits(int point, List<Life> links) {
        int bits = 0;
        for (int other = 0; other < 16; other++) {
            bits += reaches(point, other, links) ? 1 << other : 0;
        }
        return bits;
    }

    private boolean isOdd(int moment) {
        List<Life> living = livingAt(moment);
        for (int point = 0; point < 16; point++) {
            if (reached(point, living)[point + 16]) {
                return true;
            }
        }
        return false;
    }

    private boolean isNeeded(int link, int moment) {
        List<Life> others = new ArrayList<>();
        for (int other = 0; other < lives.size(); other++) {
            if (other != link && lives.get(other).at(moment)) {
                others.add(lives.get(other));
            }
        }
        Life life = lives.get(link);
        return life.at(moment) && !reaches(life.one, life.other, others);
    }

    private int parts(int moment) {
        List<Life> living = livingAt(moment);
        return (int) java.util.stream.IntStream.range(0, 16).map(p -> bits(p, living)).distinct().count();
    }

    int link(int link, int what) {
        if (!isLink(link)) {
            return UNKNOWN;
        }
        Life life = lives.get(link);
        switch (what) {
            case 0: return life.one;
            case 1: return life.other;
            case 2: return life.from;
            case 3: return life.to;
            case 4: return spansOf(life, 0, 64, false);
            case 5:
                int needed = 0;
                for (int moment = 0; moment < 64; moment++) {
                    needed += isNeeded(link, moment) ? 1 : 0;
                }
                return needed;
            default: return BAD_VALUE;
        }
    }

    private static boolean covers(Life life, int begin, int end) {
        for (int moment = begin; moment < end; moment++) {
            if (!life.at(moment)) {
                return false;
            }
        }
        return true;
    }

    private static int spansOf(Life life, int begin, int end, boolean covered) {
        boolean here = covers(life, begin, end);
        int spans = here && !covered ? 1 : 0;
        if (end - begin > 1) {
            int middle = (begin + end) / 2;
            spans += spansOf(life, begin, middle, here) + spansOf(life, middle, end, here);
        }
        return spans;
    }

    int joined(int moment, int one, int other) {
        if (!in(moment, 0, 63) || !in(one, 0, 15) || !in(other, 0, 15)) {
            return UNKNOWN;
        }
        return reaches(one, other, livingAt(moment)) ? 1 : 0;
    }

    int moment(int moment, int what) {
        if (!in(moment, 0, 63)) {
            return UNKNOWN;
        }
        List<Life> living = livingAt(moment);
        int number = 0;
        switch (what) {
            case 0: return living.size();
            case 1: return parts(moment);
            case 2: return isOdd(moment) ? 1 : 0;
            case 3:
                for (int point = 0; point < 16; point++) {
                    number = Math.max(number, Integer.bitCount(bits(point, living)));
                }
                return number;
            case 4:
                for (int link = 0; link < lives.size(); link++) {
                    number += isNeeded(link, moment) ? 1 : 0;
                }
                return number;
            case 5:
                for (int point = 0; point < 16; point++) {
                    int p = point;
                    number += living.stream().noneMatch(life -> life.one == p || life.other == p) ? 1 : 0;
                }
                return number;
            default: return BAD_VALUE;
        }
    }

    int part(int moment, int point, int what) {
        if (!in(moment, 0, 63) || !in(point, 0, 15)) {
            return UNKNOWN;
        }
        int bits = bits(point, livingAt(moment));
        switch (what) {
            case 0: return Integer.numberOfTrailingZeros(bits);
            case 1: return Integer.bitCount(bits);
            case 2: return bits;
            default: return BAD_VALUE;
        }
    }

    int needed(int link, int moment) {
        if (!isLink(link) || !in(moment, 0, 63)) {
            return UNKNOWN;
        }
        if (!lives.get(link).at(moment)) {
            return NONE;
        }
        return isNeeded(link, moment) ? 1 : 0;
    }

    int together(int one, int other, int what) {
        if (!in(one, 0, 15) || !in(other, 0, 15)) {
            return UNKNOWN;
        }
        if (!in(what, 0, 4)) {
            return BAD_VALUE;
        }
        StringBuilder row = new StringBuilder();
        for (int moment = 0; moment < 64; moment++) {
            row.append(reaches(one, other, livingAt(moment)) ? 'x' : '.');
        }
        String all = row.toString();
        String longest = "";
        while (all.contains(longest + "x")) {
            longest += "x";
        }
        if (what == 0) {
            return all.replace(".", "").length();
        }
        if (what == 3) {
            return longest.length();
        }
        if (longest.isEmpty()) {
            return NONE;
        }
        return what == 1 ? all.indexOf('x') : what == 2 ? all.lastIndexOf('x') : all.indexOf(longest);
    }

    int odd(int from) {
        if (!in(from, 0, 63)) {
            return UNKNOWN;
        }
        for (int moment = from; moment < 64; moment++) {
            if (isOdd(moment)) {
                return moment;
            }
        }
        return NONE;
    }

    /** What the way by halves has met: for each span its begin, length, laid and made, and what stood then. */
    private List<int[]> way() {
        List<int[]> met = new ArrayList<>();
        goThrough(0, 64, new ArrayList<>(), List.of(), met);
        return met;
    }

    private void goThrough(int begin, int end, List<Life> standing, List<Life> laidAround, List<int[]> met) {
        List<Life> stands = new ArrayList<>(standing);
        List<Life> laid = new ArrayList<>(laidAround);
        int laidHere = 0;
        for (Life life : lives) {
            boolean isLaid = covers(life, begin, end) && laidAround.stream().noneMatch(around -> around == life);
            if (isLaid) {
                laidHere++;
                laid.add(life);
                if (!reaches(life.one, life.other, stands)) {
                    stands.add(life);
                }
            }
        }
        met.add(new int[] {begin, end - begin, laidHere, stands.size() - standing.size(), stands.size()});
        if (end - begin > 1) {
            int middle = (begin + end) / 2;
            goThrough(begin, middle, stands, laid, met);
            goThrough(middle, end, stands, laid, met);
        }
    }

    int span(int moment, int depth, int what) {
        if (!in(moment, 0, 63)) {
            return UNKNOWN;
        }
        if (!in(depth, 0, 6) || !in(what, 0, 4)) {
            return BAD_VALUE;
        }
        for (int[] span : way()) {
            if (span[1] == 64 / (1 << depth) && in(moment, span[0], span[0] + span[1] - 1)) {
                return what == 4 ? span[2] - span[3] : span[what];
            }
        }
        throw new IllegalStateException("a span that the way has not met");
    }

    int count(int what) {
        switch (what) {
            case 0: return lives.size();
            case 1: return way().stream().mapToInt(span -> span[3]).sum();
            case 2: return way().stream().mapToInt(span -> span[2] - span[3]).sum();
            case 3: return way().stream().mapToInt(span -> span[4]).max().orElse(-1);
            case 4: return (int) java.util.stream.IntStream.range(0, 64).filter(this::isOdd).count();
            case 5: return java.util.stream.IntStream.range(0, 64).map(this::parts).max().orElse(-1);
            case 6: return java.util.stream.IntStream.range(0, 64).map(this::parts).min().orElse(-1);
            case 7: return history.size();
            case 8: return text.length();
            default: return BAD_VALUE;
        }
    }
}

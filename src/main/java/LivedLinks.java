/**
 * Links that live for a while, between 16 points and over 64 moments. Every promise of
 * ../shared/DOC.md is kept by the method that bears its name; all rows are made by the
 * constructors and used again, so that no call makes an object.
 */
public final class LivedLinks {
    /** There is no such point, link or moment. */
    public static final int UNKNOWN = -1;
    /** Another argument is out of range. */
    public static final int BAD_VALUE = -2;
    /** There is no more room. */
    public static final int FULL = -3;
    /** This is not possible. */
    public static final int NOT_POSSIBLE = -4;
    /** There is no such thing; not an error. */
    public static final int NONE = -5;

    private static final int POINTS = 16;
    private static final int MOMENTS = 64;
    private static final int MOST_LINKS = 40;
    private static final int MOST_CHARACTERS = 60;
    private static final int MOST_STATES = 4;
    /** How often the whole time is halved down to a single moment. */
    private static final int DEEPEST = 6;
    /** What readLinks() answers for a fault at index 0. */
    private static final int FIRST_FAULT = -100;
    private static final int NO_FAULT = -1;
    private static final int NO_NUMBER = -1;
    private static final int NO_LINK = -1;

    private final Links links;
    private final Links snapshot;
    private boolean hasSnapshot;
    private final History history;
    private final LinkText text;
    /** The links of the text, until it is sure that they can be added. */
    private final Links found;
    private final Moments moments;
    private final MomentRows joinedMoments;
    private final HalvesWay way;

    /** Promise 1: creates points without links. */
    public LivedLinks() {
        links = new Links();
        snapshot = new Links();
        hasSnapshot = false;
        history = new History();
        text = new LinkText();
        found = new Links();
        moments = new Moments();
        joinedMoments = new MomentRows();
        way = new HalvesWay();
    }

    // ---- links

    /** Promise 2: adds a link, answers its number. */
    public int addLink(int one, int other, int from, int to) {
        if (!isPoint(one) || !isPoint(other)) {
            return UNKNOWN;
        }
        if (!isLife(from, to) || one == other) {
            return BAD_VALUE;
        }
        if (links.room() < 1) {
            return FULL;
        }
        history.remember(links);
        links.add(one, other, from, to);
        return links.size() - 1;
    }

    /** Promise 3: removes a link, answers how many are left. */
    public int removeLink(int link) {
        if (!links.has(link)) {
            return UNKNOWN;
        }
        history.remember(links);
        links.removeAt(link);
        return links.size();
    }

    /** Promise 4: gives a link another life, answers how many moments that has. */
    public int setLife(int link, int from, int to) {
        if (!links.has(link)) {
            return UNKNOWN;
        }
        if (!isLife(from, to)) {
            return BAD_VALUE;
        }
        if (links.fromOf(link) == from && links.toOf(link) == to) {
            return NONE;
        }
        history.remember(links);
        links.live(link, from, to);
        return to - from;
    }

    /** Promise 5: cuts a link in two at a moment, answers the number of the later one. */
    public int cut(int link, int moment) {
        if (!links.has(link)) {
            return UNKNOWN;
        }
        if (!isMoment(moment)) {
            return BAD_VALUE;
        }
        if (!links.livesAt(link, moment) || !links.livesAt(link, moment - 1)) {
            return NOT_POSSIBLE;
        }
        if (links.room() < 1) {
            return FULL;
        }
        history.remember(links);
        links.add(links.oneOf(link), links.otherOf(link), moment, links.toOf(link));
        links.live(link, links.fromOf(link), moment);
        return links.size() - 1;
    }

    /** Promise 6: adds the links of the text, answers how many links there are then. */
    public int readLinks() {
        int fault = text.readInto(found);
        if (fault != NO_FAULT) {
            return FIRST_FAULT - fault;
        }
        if (links.room() < found.size()) {
            return FULL;
        }
        history.remember(links);
        links.addAll(found);
        return links.size();
    }

    /** Promise 7: removes all links that live at a moment, answers how many those are. */
    public int clear(int moment) {
        if (!isMoment(moment)) {
            return UNKNOWN;
        }
        int living = links.livingAt(moment);
        if (living == 0) {
            return NONE;
        }
        history.remember(links);
        links.removeLivingAt(moment);
        return living;
    }

    // ---- texts

    /** Promise 8: types a character behind the text, answers the length then. */
    public int type(char character) {
        if (text.length() >= MOST_CHARACTERS) {
            return FULL;
        }
        text.append(character);
        return text.length();
    }

    /** Promise 9: empties the text, answers the length that it had. */
    public int clearText() {
        int length = text.length();
        text.empty();
        return length;
    }

    // ---- history

    /** Promise 10: goes back to the latest state of the history, answers how many are left. */
    public int undo() {
        if (history.size() == 0) {
            return NONE;
        }
        history.goBack(links);
        return history.size();
    }

    /** Promise 11: takes a snapshot, answers how many links it has. */
    public int keep() {
        snapshot.take(links);
        hasSnapshot = true;
        return links.size();
    }

    /** Promise 12: restores the snapshot, answers how many links there are then. */
    public int restore() {
        if (!hasSnapshot) {
            return NONE;
        }
        history.remember(links);
        links.take(snapshot);
        return links.size();
    }

    // ---- what is told

    /** Promise 13: tells about a link. */
    public int link(int link, int what) {
        if (!links.has(link)) {
            return UNKNOWN;
        }
        switch (what) {
            case 0:
                return links.oneOf(link);
            case 1:
                return links.otherOf(link);
            case 2:
                return links.fromOf(link);
            case 3:
                return links.toOf(link);
            case 4:
                return links.spansOf(link);
            case 5:
                return moments.neededMomentsOf(links, link);
            default:
                return BAD_VALUE;
        }
    }

    /** Promise 14: tells whether points are joined at a moment. */
    public int joined(int moment, int one, int other) {
        if (!isMoment(moment) || !isPoint(one) || !isPoint(other)) {
            return UNKNOWN;
        }
        return asNumber(moments.areJoinedAt(links, moment, one, other));
    }

    /** Promise 15: tells about a moment. */
    public int moment(int moment, int what) {
        if (!isMoment(moment)) {
            return UNKNOWN;
        }
        switch (what) {
            case 0:
                return links.livingAt(moment);
            case 1:
                return moments.partsAt(links, moment);
            case 2:
                return asNumber(moments.isOddAt(links, moment));
            case 3:
                return moments.greatestPartAt(links, moment);
            case 4:
                return moments.neededLinksAt(links, moment);
            case 5:
                return moments.linklessPointsAt(links, moment);
            default:
                return BAD_VALUE;
        }
    }

    /** Promise 16: tells about the part of a point. */
    public int part(int moment, int point, int what) {
        if (!isMoment(moment) || !isPoint(point)) {
            return UNKNOWN;
        }
        switch (what) {
            case 0:
                return moments.lowestOfPartAt(links, moment, point);
            case 1:
                return moments.partSizeAt(links, moment, point);
            case 2:
                return moments.partBitsAt(links, moment, point);
            default:
                return BAD_VALUE;
        }
    }

    /** Promise 17: tells whether a link is needed at a moment. */
    public int needed(int link, int moment) {
        if (!links.has(link) || !isMoment(moment)) {
            return UNKNOWN;
        }
        if (!links.livesAt(link, moment)) {
            return NONE;
        }
        return asNumber(moments.isNeededAt(links, link, moment));
    }

    /** Promise 18: tells about the moments at which two points are joined. */
    public int together(int one, int other, int what) {
        if (!isPoint(one) || !isPoint(other)) {
            return UNKNOWN;
        }
        joinedMoments.empty();
        for (int moment = 0; moment < MOMENTS; moment++) {
            if (moments.areJoinedAt(links, moment, one, other)) {
                joinedMoments.add(moment);
            }
        }
        switch (what) {
            case 0:
                return joinedMoments.many();
            case 1:
                return joinedMoments.first();
            case 2:
                return joinedMoments.last();
            case 3:
                return joinedMoments.longest();
            case 4:
                return joinedMoments.longestBegin();
            default:
                return BAD_VALUE;
        }
    }

    /** Promise 19: tells the first moment, from one on, that is odd. */
    public int odd(int from) {
        if (!isMoment(from)) {
            return UNKNOWN;
        }
        for (int moment = from; moment < MOMENTS; moment++) {
            if (moments.isOddAt(links, moment)) {
                return moment;
            }
        }
        return NONE;
    }

    /** Promise 20: tells about a span. */
    public int span(int moment, int depth, int what) {
        if (!isMoment(moment)) {
            return UNKNOWN;
        }
        if (depth < 0 || depth > DEEPEST) {
            return BAD_VALUE;
        }
        way.goTo(links, moment, depth);
        switch (what) {
            case 0:
                return spanBegin(moment, depth);
            case 1:
                return spanLength(depth);
            case 2:
                return way.laidHere();
            case 3:
                return way.madeHere();
            case 4:
                return way.laidHere() - way.madeHere();
            default:
                return BAD_VALUE;
        }
    }

    /** Promise 21: tells a number about the whole. */
    public int count(int what) {
        switch (what) {
            case 0:
                return links.size();
            case 1:
            case 2:
            case 3:
                return countOnWay(what);
            case 4:
                return moments.oddMoments(links);
            case 5:
                return moments.mostParts(links);
            case 6:
                return moments.fewestParts(links);
            case 7:
                return history.size();
            case 8:
                return text.length();
            default:
                return BAD_VALUE;
        }
    }

    private int countOnWay(int what) {
        way.goAll(links);
        if (what == 1) {
            return way.madeInAll();
        }
        return what == 2 ? way.idleInAll() : way.mostStanding();
    }

    private static int asNumber(boolean holds) {
        return holds ? 1 : 0;
    }

    private static boolean isPoint(int point) {
        return point >= 0 && point < POINTS;
    }

    private static boolean isMoment(int moment) {
        return moment >= 0 && moment < MOMENTS;
    }

    private static boolean isLife(int from, int to) {
        return isMoment(from) && to > from && to <= MOMENTS;
    }

    private static int spanLength(int depth) {
        return MOMENTS >> depth;
    }

    private static int spanBegin(int moment, int depth) {
        // The length is a power of two, so the lower bits of a moment are its place in the span.
        return moment & -spanLength(depth);
    }

    /** The links of a state, by their numbers. */
    private static final class Links {
        private final int[] one = new int[MOST_LINKS];
        private final int[] other = new int[MOST_LINKS];
        private final int[] from = new int[MOST_LINKS];
        private final int[] to = new int[MOST_LINKS];
        private int size;

        int size() {
            return size;
        }

        int room() {
            return MOST_LINKS - size;
        }

        boolean has(int link) {
            return link >= 0 && link < size;
        }

        int oneOf(int link) {
            return has(link) ? one[link] : 0;
        }

        int otherOf(int link) {
            return has(link) ? other[link] : 0;
        }

        int fromOf(int link) {
            return has(link) ? from[link] : 0;
        }

        int toOf(int link) {
            return has(link) ? to[link] : 0;
        }

        boolean livesAt(int link, int moment) {
            return has(link) && from[link] <= moment && moment < to[link];
        }

        int livingAt(int moment) {
            int living = 0;
            for (int link = 0; link < size; link++) {
                if (livesAt(link, moment)) {
                    living++;
                }
            }
            return living;
        }

        private boolean coversAll(int link, int begin, int length) {
            return has(link) && from[link] <= begin && begin + length <= to[link];
        }

        boolean isLaidAt(int link, int begin, int depth) {
            if (!coversAll(link, begin, spanLength(depth))) {
                return false;
            }
            return depth == 0
                || !coversAll(link, spanBegin(begin, depth - 1), spanLength(depth - 1));
        }

        /** How many spans a link is laid at. */
        int spansOf(int link) {
            int spans = 0;
            for (int moment = 0; moment < MOMENTS; moment++) {
                for (int depth = 0; depth <= DEEPEST; depth++) {
                    if (spanBegin(moment, depth) == moment && isLaidAt(link, moment, depth)) {
                        spans++;
                    }
                }
            }
            return spans;
        }

        void empty() {
            size = 0;
        }

        void add(int onePoint, int otherPoint, int begin, int end) {
            if (room() > 0) {
                one[size] = onePoint;
                other[size] = otherPoint;
                from[size] = begin;
                to[size] = end;
                size++;
            }
        }

        void addAll(Links more) {
            for (int link = 0; link < more.size; link++) {
                add(more.one[link], more.other[link], more.from[link], more.to[link]);
            }
        }

        void take(Links source) {
            empty();
            addAll(source);
        }

        void live(int link, int begin, int end) {
            if (has(link)) {
                from[link] = begin;
                to[link] = end;
            }
        }

        void removeAt(int link) {
            if (!has(link)) {
                return;
            }
            for (int later = link + 1; later < size; later++) {
                one[later - 1] = one[later];
                other[later - 1] = other[later];
                from[later - 1] = from[later];
                to[later - 1] = to[later];
            }
            size--;
        }

        void removeLivingAt(int moment) {
            // From behind, for a removal changes the numbers of later links alone.
            for (int link = size - 1; link >= 0; link--) {
                if (livesAt(link, moment)) {
                    removeAt(link);
                }
            }
        }
    }

    /** The latest states, the oldest one first. */
    private static final class History {
        private final Links[] states = new Links[MOST_STATES];
        private int size;

        History() {
            for (int state = 0; state < MOST_STATES; state++) {
                states[state] = new Links();
            }
        }

        int size() {
            return size;
        }

        void remember(Links links) {
            if (size >= MOST_STATES) {
                dropOldest();
            }
            Links latest = states[size];
            if (latest != null) {
                latest.take(links);
                size++;
            }
        }

        private void dropOldest() {
            Links oldest = states[0];
            for (int state = 1; state < MOST_STATES; state++) {
                states[state - 1] = states[state];
            }
            // Its rows are used again for the state that is recorded next.
            states[MOST_STATES - 1] = oldest;
            size = MOST_STATES - 1;
        }

        void goBack(Links links) {
            if (size < 1) {
                return;
            }
            size--;
            Links latest = states[size];
            if (latest != null) {
                links.take(latest);
            }
        }
    }

    /** The text, and the reading of links from it. */
    private static final class LinkText {
        private final char[] characters = new char[MOST_CHARACTERS];
        private int length;
        /** Where the reading stands; when it fails, where the fault is. */
        private int place;

        int length() {
            return length;
        }

        void empty() {
            length = 0;
        }

        void append(char character) {
            if (length < MOST_CHARACTERS) {
                characters[length] = character;
                length++;
            }
        }

        /** Puts the links of the text in place of the found ones, answers the fault or NO_FAULT. */
        int readInto(Links found) {
            found.empty();
            place = 0;
            // Each turn reads a link or ends, and a text has more characters than links.
            for (int turn = 0; turn < MOST_CHARACTERS; turn++) {
                if (!readLink(found)) {
                    return place;
                }
                if (place == length) {
                    return NO_FAULT;
                }
                if (!readSign(',')) {
                    return place;
                }
            }
            return place;
        }

        private boolean readLink(Links found) {
            int one = readNumber(POINTS - 1);
            if (one == NO_NUMBER || !readSign('-')) {
                return false;
            }
            int other = readNumber(POINTS - 1);
            if (other == NO_NUMBER) {
                return false;
            }
            if (other == one) {
                return refuseLastDigit();
            }
            if (!readSign('@')) {
                return false;
            }
            int from = readNumber(MOMENTS - 1);
            if (from == NO_NUMBER || !readSign(':')) {
                return false;
            }
            int to = readNumber(MOMENTS);
            if (to == NO_NUMBER) {
                return false;
            }
            if (to <= from) {
                return refuseLastDigit();
            }
            found.add(one, other, from, to);
            return true;
        }

        private boolean refuseLastDigit() {
            place--;
            return false;
        }

        private boolean readSign(char sign) {
            if (place < 0 || place >= length || characters[place] != sign) {
                return false;
            }
            place++;
            return true;
        }

        private int readNumber(int greatest) {
            int number = digitAt(place);
            if (number == NO_NUMBER) {
                return NO_NUMBER;
            }
            place++;
            int second = digitAt(place);
            int both = 10 * number + second;
            // Behind a zero no second digit can stand, and one that leads too far is not read.
            if (number == 0 || second == NO_NUMBER || both > greatest) {
                return number;
            }
            place++;
            return both;
        }

        private int digitAt(int index) {
            if (index < 0 || index >= length) {
                return NO_NUMBER;
            }
            char character = characters[index];
            return character >= '0' && character <= '9' ? character - '0' : NO_NUMBER;
        }
    }

    /**
     * Which members are joined, by joinings that can be taken back, the latest one first.
     * The members of a part hang below one top; no way to the top is shortened, as that
     * could not be taken back.
     */
    private static final class Joinings {
        private final int[] above;
        private final int[] below;
        /** The tops that were hung below others, in the order of the joinings that stand. */
        private final int[] hung;
        private int standing;

        Joinings(int members) {
            int room = Math.max(members, 0);
            above = new int[room];
            below = new int[room];
            hung = new int[room];
            for (int member = 0; member < room; member++) {
                above[member] = member;
                below[member] = 1;
            }
        }

        int standing() {
            return standing;
        }

        private boolean has(int member) {
            return member >= 0 && member < above.length;
        }

        private int topOf(int member) {
            int top = member;
            for (int step = 0; step < above.length && has(top) && above[top] != top; step++) {
                top = above[top];
            }
            return top;
        }

        boolean areJoined(int one, int other) {
            return topOf(one) == topOf(other);
        }

        /** How many members the part of a member has. */
        int partSize(int member) {
            int top = topOf(member);
            return has(top) ? below[top] : 0;
        }

        void join(int one, int other) {
            int high = topOf(one);
            int low = topOf(other);
            if (!has(high) || !has(low) || high == low || standing >= hung.length) {
                return;
            }
            if (below[high] < below[low]) {
                int swapped = high;
                high = low;
                low = swapped;
            }
            above[low] = high;
            below[high] += below[low];
            hung[standing] = low;
            standing++;
        }

        void takeBackTo(int left) {
            int end = Math.max(left, 0);
            while (standing > end && standing <= hung.length) {
                standing--;
                takeOff(hung[standing]);
            }
        }

        private void takeOff(int low) {
            if (!has(low)) {
                return;
            }
            int high = above[low];
            if (has(high)) {
                below[high] -= below[low];
                above[low] = low;
            }
        }
    }

    /** What is to be told about single moments. */
    private static final class Moments {
        private final Joinings points = new Joinings(POINTS);
        /**
         * Each point twice, and each link from either one of a point to the other one of the
         * next point: both of a point are joined just if its part has a ring of odd length.
         */
        private final Joinings sides = new Joinings(2 * POINTS);

        private void joinWithout(Links links, int leftOut, int moment) {
            points.takeBackTo(0);
            for (int link = 0; link < links.size(); link++) {
                if (link != leftOut && links.livesAt(link, moment)) {
                    points.join(links.oneOf(link), links.otherOf(link));
                }
            }
        }

        boolean areJoinedAt(Links links, int moment, int one, int other) {
            joinWithout(links, NO_LINK, moment);
            return points.areJoined(one, other);
        }

        int partsAt(Links links, int moment) {
            joinWithout(links, NO_LINK, moment);
            return POINTS - points.standing();
        }

        int lowestOfPartAt(Links links, int moment, int point) {
            joinWithout(links, NO_LINK, moment);
            for (int member = 0; member < point; member++) {
                if (points.areJoined(point, member)) {
                    return member;
                }
            }
            return point;
        }

        int partSizeAt(Links links, int moment, int point) {
            joinWithout(links, NO_LINK, moment);
            return points.partSize(point);
        }

        int partBitsAt(Links links, int moment, int point) {
            joinWithout(links, NO_LINK, moment);
            int bits = 0;
            for (int member = 0; member < POINTS; member++) {
                if (points.areJoined(point, member)) {
                    bits |= 1 << member;
                }
            }
            return bits;
        }

        int greatestPartAt(Links links, int moment) {
            joinWithout(links, NO_LINK, moment);
            int greatest = 0;
            for (int point = 0; point < POINTS; point++) {
                greatest = Math.max(greatest, points.partSize(point));
            }
            return greatest;
        }

        int linklessPointsAt(Links links, int moment) {
            joinWithout(links, NO_LINK, moment);
            int linkless = 0;
            for (int point = 0; point < POINTS; point++) {
                // A link joins two points, so just a point without one is a part of its own.
                if (points.partSize(point) == 1) {
                    linkless++;
                }
            }
            return linkless;
        }

        boolean isNeededAt(Links links, int link, int moment) {
            if (!links.livesAt(link, moment)) {
                return false;
            }
            joinWithout(links, link, moment);
            return !points.areJoined(links.oneOf(link), links.otherOf(link));
        }

        int neededLinksAt(Links links, int moment) {
            int needed = 0;
            for (int link = 0; link < links.size(); link++) {
                if (isNeededAt(links, link, moment)) {
                    needed++;
                }
            }
            return needed;
        }

        int neededMomentsOf(Links links, int link) {
            int needed = 0;
            for (int moment = 0; moment < MOMENTS; moment++) {
                if (isNeededAt(links, link, moment)) {
                    needed++;
                }
            }
            return needed;
        }

        boolean isOddAt(Links links, int moment) {
            sides.takeBackTo(0);
            for (int link = 0; link < links.size(); link++) {
                if (links.livesAt(link, moment)) {
                    sides.join(links.oneOf(link), POINTS + links.otherOf(link));
                    sides.join(POINTS + links.oneOf(link), links.otherOf(link));
                }
            }
            for (int point = 0; point < POINTS; point++) {
                if (sides.areJoined(point, POINTS + point)) {
                    return true;
                }
            }
            return false;
        }

        int oddMoments(Links links) {
            int odd = 0;
            for (int moment = 0; moment < MOMENTS; moment++) {
                if (isOddAt(links, moment)) {
                    odd++;
                }
            }
            return odd;
        }

        int mostParts(Links links) {
            int most = 0;
            for (int moment = 0; moment < MOMENTS; moment++) {
                most = Math.max(most, partsAt(links, moment));
            }
            return most;
        }

        int fewestParts(Links links) {
            int fewest = POINTS;
            for (int moment = 0; moment < MOMENTS; moment++) {
                fewest = Math.min(fewest, partsAt(links, moment));
            }
            return fewest;
        }
    }

    /** Moments, added the earlier ones first, and the rows that they make. */
    private static final class MomentRows {
        private int many;
        private int first;
        private int last;
        /** How long the row is that ends with the last moment. */
        private int row;
        private int longest;
        private int longestBegin;

        int many() {
            return many;
        }

        int first() {
            return first;
        }

        int last() {
            return last;
        }

        int longest() {
            return longest;
        }

        /** Where the longest row begins, and of several the first one. */
        int longestBegin() {
            return longestBegin;
        }

        void empty() {
            many = 0;
            first = NONE;
            last = NONE;
            row = 0;
            longest = 0;
            longestBegin = NONE;
        }

        void add(int moment) {
            boolean goesOn = many > 0 && moment == last + 1;
            row = goesOn ? row + 1 : 1;
            if (many == 0) {
                first = moment;
            }
            many++;
            last = moment;
            if (row > longest) {
                longest = row;
                longestBegin = moment - row + 1;
            }
        }
    }

    /** The way by halves. */
    private static final class HalvesWay {
        private final Joinings points = new Joinings(POINTS);
        /** For each depth, how many joinings stand behind those of the span gone through last. */
        private final int[] standingAt = new int[DEEPEST + 1];
        private int laidHere;
        private int madeHere;
        private int laidInAll;
        private int madeInAll;
        private int mostStanding;

        int laidHere() {
            return laidHere;
        }

        int madeHere() {
            return madeHere;
        }

        int madeInAll() {
            return madeInAll;
        }

        int idleInAll() {
            return laidInAll - madeInAll;
        }

        int mostStanding() {
            return mostStanding;
        }

        /** Goes the whole way: by the moments with which spans begin, at each the longest first. */
        void goAll(Links links) {
            laidInAll = 0;
            madeInAll = 0;
            mostStanding = 0;
            for (int moment = 0; moment < MOMENTS; moment++) {
                for (int depth = 0; depth <= DEEPEST; depth++) {
                    if (spanBegin(moment, depth) == moment) {
                        joinLaid(links, moment, depth);
                        laidInAll += laidHere;
                        madeInAll += madeHere;
                        mostStanding = Math.max(mostStanding, points.standing());
                    }
                }
            }
        }

        /** Goes through the spans around a span, and to this. */
        void goTo(Links links, int moment, int deepest) {
            for (int depth = 0; depth <= deepest; depth++) {
                joinLaid(links, spanBegin(moment, depth), depth);
            }
        }

        private void joinLaid(Links links, int begin, int depth) {
            if (depth < 0 || depth > DEEPEST) {
                return;
            }
            int around = depth == 0 ? 0 : standingAt[depth - 1];
            // The spans gone through before that are not around this one are left only here.
            points.takeBackTo(around);
            laidHere = 0;
            for (int link = 0; link < links.size(); link++) {
                if (links.isLaidAt(link, begin, depth)) {
                    laidHere++;
                    points.join(links.oneOf(link), links.otherOf(link));
                }
            }
            standingAt[depth] = points.standing();
            madeHere = points.standing() - around;
        }
    }
}

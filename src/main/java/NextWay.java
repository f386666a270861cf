/** A town in which each corner sends whoever comes out by its next way; the document is ../shared/DOC.md. */
public final class NextWay {
    public static final int NONE = -1, UNKNOWN = -2, OUTSIDE = -3, NOT = -4, FULL = -5;

    private static final int MOST_BEATS_A_GO = 999;
    private static final int MOST_BEATS = 99999;
    private static final int MOST_BEATS_LATER = 99;
    private static final int MOST_BEATS_WATCHED = 999;
    private static final int MOST_SHARES = 99;
    private static final int MOST_PAST = 6;
    private static final int KEPT = 2;

    private final Text text;
    private final Reader reader;
    private final Town told;
    private final int[] keptStands;
    private final int[] keptBeats;
    private int stand;
    private int beats;

    public NextWay() {
        text = new Text();
        reader = new Reader();
        told = new Town();
        keptStands = new int[KEPT];
        keptBeats = new int[KEPT];
        stand = told.stand;
        beats = 0;
        for (int k = 0; k < KEPT; k++) {
            keptBeats[k] = NONE;
        }
    }

    // ---- what is told

    public int write(long bytes, int n) {
        if (n < 1 || n > Text.MOST_AT_ONCE) {
            return OUTSIDE;
        }
        return text.append(bytes, n) ? text.length : FULL;
    }

    public int erase() {
        return text.clear();
    }

    public int fault() {
        return reader.read(text, told);
    }

    public int town() {
        if (reader.read(text, told) != NONE) {
            return NOT;
        }
        told.copyFrom(reader.draft);
        stand = told.stand;
        beats = 0;
        for (int k = 0; k < KEPT; k++) {
            keptBeats[k] = NONE;
        }
        text.clear();
        return reader.lines;
    }

    public int corner(int corner, int what) {
        if (!told.hasCorner(corner)) {
            return UNKNOWN;
        }
        switch (what) {
            case 0:
                return told.kindOf(corner);
            case 1:
                return told.waysOf(corner);
            case 2:
                return told.shownVane(stand, corner);
            case 3:
                return told.walkersAt(stand, corner);
            default:
                return OUTSIDE;
        }
    }

    public int way(int corner, int way) {
        return told.hasWay(corner, way) ? told.endOf(corner, way) : UNKNOWN;
    }

    public int as(int corner, int kind) {
        if (!told.hasCorner(corner)) {
            return UNKNOWN;
        }
        if (kind < Town.AS_CORNER || kind > Town.AS_SPRING) {
            return OUTSIDE;
        }
        if (!told.isSuch(corner, kind)) {
            return NOT;
        }
        return told.isLeft(corner) ? told.shownEnd(told.turned(stand, corner), corner) : NONE;
    }

    public int walker(int walker) {
        return told.hasWalker(walker) ? Town.placeOf(stand, walker) : UNKNOWN;
    }

    // ---- beats

    public int go(int n) {
        if (n < 1 || n > MOST_BEATS_A_GO) {
            return OUTSIDE;
        }
        if (beats + n > MOST_BEATS) {
            return FULL;
        }
        stand = told.behind(stand, n);
        beats += n;
        return beats;
    }

    public int turn(int corner) {
        if (!told.hasCorner(corner)) {
            return UNKNOWN;
        }
        if (!told.isLeft(corner)) {
            return NOT;
        }
        stand = told.turned(stand, corner);
        return Town.vaneOf(stand, corner);
    }

    public int put(int walker, int corner) {
        if (!told.hasWalker(walker) || !told.hasCorner(corner)) {
            return UNKNOWN;
        }
        int was = Town.placeOf(stand, walker);
        stand = Town.withPlace(stand, walker, corner);
        return was;
    }

    public int keep(int k) {
        if (k < 0 || k >= KEPT) {
            return UNKNOWN;
        }
        keptStands[k] = stand;
        keptBeats[k] = beats;
        return beats;
    }

    public int back(int k) {
        if (k < 0 || k >= KEPT) {
            return UNKNOWN;
        }
        if (keptBeats[k] == NONE) {
            return NOT;
        }
        stand = keptStands[k];
        beats = keptBeats[k];
        return beats;
    }

    // ---- foretold

    public int later(int which, int t, int what) {
        if (!isEither(what)) {
            return OUTSIDE;
        }
        if (what == 0 ? !told.hasWalker(which) : !told.hasCorner(which)) {
            return UNKNOWN;
        }
        if (t < 0 || t > MOST_BEATS_LATER) {
            return OUTSIDE;
        }
        int then = told.behind(stand, t);
        return what == 0 ? Town.placeOf(then, which) : told.shownVane(then, which);
    }

    public int when(int walker, int corner) {
        if (!told.hasWalker(walker) || !told.hasCorner(corner)) {
            return UNKNOWN;
        }
        return Company.firstAt(told, stand, walker, corner, MOST_BEATS_WATCHED);
    }

    public int often(int walker, int corner, int beats) {
        if (!told.hasWalker(walker) || !told.hasCorner(corner)) {
            return UNKNOWN;
        }
        if (beats < 1 || beats > MOST_BEATS_WATCHED) {
            return OUTSIDE;
        }
        return Company.timesAt(told, stand, walker, corner, beats);
    }

    public int meet(int one, int other, int what) {
        if (!told.hasWalker(one) || !told.hasWalker(other)) {
            return UNKNOWN;
        }
        if (!isEither(what) || one == other) {
            return OUTSIDE;
        }
        int inBeats = Company.firstTogether(told, stand, one, other, MOST_BEATS_WATCHED);
        if (inBeats == NONE || what == 0) {
            return inBeats;
        }
        return Town.placeOf(told.behind(stand, inBeats), one);
    }

    public int round(int corner, int what) {
        if (!told.hasCorner(corner)) {
            return UNKNOWN;
        }
        if (!isEither(what)) {
            return OUTSIDE;
        }
        int start = Alone.from(stand, corner);
        int length = Alone.roundLength(told, start);
        if (length == NONE) {
            return NONE;
        }
        int ahead = Alone.beatsAheadOfRound(told, start, length);
        if (ahead == NONE) {
            return NONE;
        }
        return what == 0 ? ahead : length;
    }

    public int quick(int from, int to, int i) {
        if (!told.hasCorner(from) || !told.hasCorner(to) || i >= told.corners) {
            return UNKNOWN;
        }
        if (i < NONE) {
            return OUTSIDE;
        }
        int fewest = Alone.distance(told, 0, 0, from, to);
        if (i == NONE || fewest == NONE) {
            return fewest;
        }
        return told.shownVane(Alone.quickestVanes(told, from, to, fewest), i);
    }

    public int slow(int from, int to) {
        if (!told.hasCorner(from) || !told.hasCorner(to)) {
            return UNKNOWN;
        }
        return Alone.slowest(told, Alone.from(0, from), to, 0, 0, 0);
    }

    public int pennies(int walker, int corner, int beats, int i) {
        if (!told.hasWalker(walker) || !told.hasCorner(corner) || i >= told.corners) {
            return UNKNOWN;
        }
        if (beats < 0 || beats > MOST_BEATS_LATER || i < NONE) {
            return OUTSIDE;
        }
        for (int pennies = 0; pennies <= Company.MOST_PENNIES; pennies++) {
            int turns = Company.cheapTurns(told, stand, walker, corner, beats, pennies, 0);
            if (turns != NONE) {
                return i == NONE ? pennies : Company.turnsOf(turns, i);
            }
        }
        return NONE;
    }

    public int shares(int from, int m, int at) {
        if (!told.hasCorner(from) || !told.hasCorner(at)) {
            return UNKNOWN;
        }
        if (m < 1 || m > MOST_SHARES) {
            return OUTSIDE;
        }
        return Alone.endsAt(told, stand, from, m, at);
    }

    public int settled(int what) {
        return isEither(what) ? Company.settledCorners(told, stand, what == 1) : OUTSIDE;
    }

    public int past(int corner, int t, int what) {
        if (!told.hasCorner(corner)) {
            return UNKNOWN;
        }
        if (t < 1 || t > MOST_PAST || !isEither(what)) {
            return OUTSIDE;
        }
        int start = Alone.from(stand, corner);
        return what == 0 ? Alone.pastRows(told, start, t) : Alone.pastCorners(told, start, t);
    }

    public int count(int what) {
        switch (what) {
            case 0:
                return told.corners;
            case 1:
                return told.allWays();
            case 2:
                return told.walkers;
            case 3:
                return beats;
            case 4:
                return told.cornersNeverLeft();
            case 5:
                return text.length;
            default:
                return OUTSIDE;
        }
    }

    private static boolean isEither(int what) {
        return what == 0 || what == 1;
    }

    /** THE TEXT: bytes that wait to be read. */
    private static final class Text {
        static final int MOST_AT_ONCE = 8;
        private static final int MOST = 200;

        private final int[] bytes;
        private int length;

        Text() {
            bytes = new int[MOST];
            length = 0;
        }

        boolean append(long more, int n) {
            if (n < 0 || n > MOST_AT_ONCE || length + n > MOST) {
                return false;
            }
            for (int i = 0; i < n; i++) {
                bytes[length] = (int) (more >> 8 * i & 255);
                length++;
            }
            return true;
        }

        int clear() {
            int had = length;
            length = 0;
            return had;
        }

        /** The byte at a place; NONE behind the end. */
        int byteAt(int place) {
            return place >= 0 && place < length ? bytes[place] : NONE;
        }
    }

    /** Reads THE TEXT to its first FAULT, doing its LINES on a draft, so that a faulty text changes nothing. */
    private static final class Reader {
        private static final int END = 0, WORD = 1, DIGITS = 2, SIGN = 3;
        private static final int MOST_LINES = 12;
        private static final int BLANK = 32;
        private static final int SEMICOLON = 59;

        private final Town draft;
        private int lines;
        private int start;
        private int end;
        private int token;

        Reader() {
            draft = new Town();
            lines = 0;
            start = 0;
            end = 0;
            token = END;
        }

        /** The place of the first FAULT of a text told to a town; NONE: the draft is the town behind its LINES. */
        int read(Text text, Town town) {
            draft.copyFrom(town);
            lines = 0;
            end = 0;
            for (int i = 0; i < MOST_LINES; i++) {
                advance(text);
                if (!doLine(text)) {
                    return start;
                }
                lines++;
                if (token == END) {
                    return NONE;
                }
                if (text.byteAt(start) != SEMICOLON) {
                    return start;
                }
            }
            return start;
        }

        /** Goes on to the next token; at the end its place is the length. */
        private void advance(Text text) {
            start = end;
            while (start < text.length && text.byteAt(start) == BLANK) {
                start++;
            }
            token = shapeOf(text.byteAt(start));
            end = token == END ? start : start + 1;
            while (end < text.length && token != SIGN && shapeOf(text.byteAt(end)) == token) {
                end++;
            }
        }

        private static int shapeOf(int sign) {
            if (sign == NONE) {
                return END;
            }
            if (sign >= 'a' && sign <= 'z') {
                return WORD;
            }
            return sign >= '0' && sign <= '9' ? DIGITS : SIGN;
        }

        /** Does one LINE; false: the token at hand cannot stand where it does. */
        private boolean doLine(Text text) {
            if (token != WORD) {
                return false;
            }
            if (isWord(text, "town")) {
                return doTown(text);
            }
            if (isWord(text, "way")) {
                return doWay(text);
            }
            if (isWord(text, "vane")) {
                return doVane(text);
            }
            if (isWord(text, "walker")) {
                return doWalker(text);
            }
            if (isWord(text, "nobody")) {
                draft.sendAllAway();
                advance(text);
                return true;
            }
            int kind = kindWord(text);
            return kind != NONE && doKind(text, kind);
        }

        private int kindWord(Text text) {
            if (isWord(text, "plain")) {
                return Town.PLAIN;
            }
            if (isWord(text, "against")) {
                return Town.AGAINST;
            }
            if (isWord(text, "second")) {
                return Town.SECOND;
            }
            return isWord(text, "spring") ? Town.SPRING : NONE;
        }

        private boolean isWord(Text text, String word) {
            if (end - start != word.length()) {
                return false;
            }
            for (int i = 0; i < word.length(); i++) {
                if (text.byteAt(start + i) != word.charAt(i)) {
                    return false;
                }
            }
            return true;
        }

        private boolean doTown(Text text) {
            advance(text);
            int corners = digit(text);
            if (corners < Town.FEWEST_CORNERS || corners > Town.MOST_CORNERS) {
                return false;
            }
            draft.clear(corners);
            advance(text);
            return true;
        }

        private boolean doKind(Text text, int kind) {
            advance(text);
            int corner = digit(text);
            if (!draft.setKind(corner, kind)) {
                return false;
            }
            advance(text);
            return true;
        }

        private boolean doWay(Text text) {
            advance(text);
            int from = digit(text);
            if (!draft.hasRoomForWay(from)) {
                return false;
            }
            advance(text);
            int to = digit(text);
            if (!draft.addWay(from, to)) {
                return false;
            }
            advance(text);
            return true;
        }

        private boolean doVane(Text text) {
            advance(text);
            int corner = digit(text);
            if (!draft.hasCorner(corner)) {
                return false;
            }
            advance(text);
            int way = digit(text);
            if (!draft.hasWay(corner, way)) {
                return false;
            }
            draft.stand = Town.withVane(draft.stand, corner, way);
            advance(text);
            return true;
        }

        private boolean doWalker(Text text) {
            if (!draft.hasRoomForWalker()) {
                return false;
            }
            advance(text);
            int corner = digit(text);
            if (!draft.addWalker(corner)) {
                return false;
            }
            advance(text);
            return true;
        }

        /** The number at hand, if it has one digit; else NONE, which is no CORNER, WAY or count. */
        private int digit(Text text) {
            return token == DIGITS && end - start == 1 ? text.byteAt(start) - '0' : NONE;
        }
    }

    /**
     * What is told of CORNERS, WAYS and WALKERS. How VANES and WALKERS stand is one number, a stand (2 bits a VANE,
     * above them 3 bits a WALKER's CORNER), so that what is foretold needs no copies and two stands are compared at
     * once.
     */
    private static final class Town {
        static final int FEWEST_CORNERS = 2, MOST_CORNERS = 8;
        static final int PLAIN = 0, AGAINST = 1, SECOND = 2, SPRING = 3;
        static final int AS_CORNER = 0, AS_PLAIN = 1, AS_SPRING = 4;
        private static final int MOST_WAYS = 4;
        private static final int MOST_WALKERS = 5;
        private static final int PLACES = 16;

        private final int[] kinds;
        private final int[] wayCounts;
        private final int[] ends;
        private int corners;
        private int walkers;
        private int stand;

        Town() {
            kinds = new int[MOST_CORNERS];
            wayCounts = new int[MOST_CORNERS];
            ends = new int[MOST_CORNERS * MOST_WAYS];
            corners = FEWEST_CORNERS;
            walkers = 0;
            stand = 0;
        }

        void clear(int n) {
            for (int c = 0; c < MOST_CORNERS; c++) {
                kinds[c] = PLAIN;
                wayCounts[c] = 0;
            }
            corners = n;
            walkers = 0;
            stand = 0;
        }

        void copyFrom(Town other) {
            System.arraycopy(other.kinds, 0, kinds, 0, MOST_CORNERS);
            System.arraycopy(other.wayCounts, 0, wayCounts, 0, MOST_CORNERS);
            System.arraycopy(other.ends, 0, ends, 0, MOST_CORNERS * MOST_WAYS);
            corners = other.corners;
            walkers = other.walkers;
            stand = other.stand;
        }

        boolean setKind(int corner, int kind) {
            if (!hasCorner(corner)) {
                return false;
            }
            kinds[corner] = kind;
            return true;
        }

        boolean hasRoomForWay(int from) {
            return hasCorner(from) && wayCounts[from] < MOST_WAYS;
        }

        boolean addWay(int from, int to) {
            if (!hasRoomForWay(from) || !hasCorner(to)) {
                return false;
            }
            ends[from * MOST_WAYS + wayCounts[from]] = to;
            wayCounts[from]++;
            return true;
        }

        boolean hasRoomForWalker() {
            return walkers < MOST_WALKERS;
        }

        boolean addWalker(int corner) {
            if (!hasRoomForWalker() || !hasCorner(corner)) {
                return false;
            }
            stand = withPlace(stand, walkers, corner);
            walkers++;
            return true;
        }

        void sendAllAway() {
            walkers = 0;
        }

        boolean hasCorner(int corner) {
            return corner >= 0 && corner < corners;
        }

        boolean hasWay(int corner, int way) {
            return way >= 0 && way < waysOf(corner);
        }

        boolean hasWalker(int walker) {
            return walker >= 0 && walker < walkers;
        }

        int kindOf(int corner) {
            return corner >= 0 && corner < MOST_CORNERS ? kinds[corner] : NONE;
        }

        int waysOf(int corner) {
            return corner >= 0 && corner < MOST_CORNERS ? wayCounts[corner] : 0;
        }

        int endOf(int corner, int way) {
            return hasWay(corner, way) ? ends[corner * MOST_WAYS + way] : NONE;
        }

        int allWays() {
            int sum = 0;
            for (int c = 0; c < corners; c++) {
                sum += waysOf(c);
            }
            return sum;
        }

        boolean isLeft(int corner) {
            return waysOf(corner) > 0 && kindOf(corner) != SPRING;
        }

        int cornersNeverLeft() {
            int bits = 0;
            for (int c = 0; c < corners; c++) {
                if (!isLeft(c)) {
                    bits |= 1 << c;
                }
            }
            return bits;
        }

        /** Whether a CORNER's KIND is one of those (0 .. 4) that are over one another, or stands under it. */
        boolean isSuch(int corner, int kind) {
            int own = kindOf(corner);
            return kind == AS_CORNER || kind == own + 1 || kind == AS_PLAIN && own != SPRING;
        }

        static int vaneOf(int stand, int corner) {
            return stand >> 2 * corner & 3;
        }

        static int withVane(int stand, int corner, int way) {
            return stand & ~(3 << 2 * corner) | way << 2 * corner;
        }

        static int placeOf(int stand, int walker) {
            return stand >> PLACES + 3 * walker & 7;
        }

        static int withPlace(int stand, int walker, int corner) {
            int shift = PLACES + 3 * walker;
            return stand & ~(7 << shift) | corner << shift;
        }

        /** The VANE of a CORNER; NONE without WAYS. */
        int shownVane(int stand, int corner) {
            return waysOf(corner) > 0 ? vaneOf(stand, corner) : NONE;
        }

        /** Where the WAY leads that a CORNER's VANE shows. */
        int shownEnd(int stand, int corner) {
            return endOf(corner, vaneOf(stand, corner));
        }

        int walkersAt(int stand, int corner) {
            int bits = 0;
            for (int w = 0; w < walkers; w++) {
                if (placeOf(stand, w) == corner) {
                    bits |= 1 << w;
                }
            }
            return bits;
        }

        private int stepOf(int corner) {
            switch (kindOf(corner)) {
                case AGAINST:
                    return -1;
                case SECOND:
                    return 2;
                default:
                    return 1;
            }
        }

        private int turnedBy(int stand, int corner, int step) {
            int ways = waysOf(corner);
            if (ways < 1) {
                return stand;
            }
            return withVane(stand, corner, Math.floorMod(vaneOf(stand, corner) + step, ways));
        }

        /** The stand behind a turn of a CORNER's VANE, as by one who LEAVES it. */
        int turned(int stand, int corner) {
            return turnedBy(stand, corner, stepOf(corner));
        }

        /** The stand ahead of such a turn. */
        int unturned(int stand, int corner) {
            return turnedBy(stand, corner, -stepOf(corner));
        }

        /** The stand when a WALKER has done what he does in a BEAT. */
        int walked(int stand, int walker) {
            int at = placeOf(stand, walker);
            if (!isLeft(at)) {
                return stand;
            }
            int then = turnedBy(stand, at, stepOf(at));
            return withPlace(then, walker, endOf(at, vaneOf(then, at)));
        }

        int behindOne(int stand) {
            int then = stand;
            for (int w = 0; w < walkers; w++) {
                then = walked(then, w);
            }
            return then;
        }

        /** The stand behind some BEATS of all WALKERS. */
        int behind(int stand, int beats) {
            int then = stand;
            for (int b = 0; b < beats; b++) {
                then = behindOne(then);
            }
            return then;
        }
    }

    /** What is FORETOLD of the WALKERS, who all go. */
    private static final class Company {
        static final int MOST_PENNIES = 4;
        private static final int BITS_OF_TURNS = 3;
        private static final int MOST_BEATS_TO_SETTLE = 999;

        static int firstAt(Town town, int stand, int walker, int corner, int most) {
            int then = stand;
            for (int b = 0; b <= most; b++) {
                if (Town.placeOf(then, walker) == corner) {
                    return b;
                }
                then = town.behindOne(then);
            }
            return NONE;
        }

        static int timesAt(Town town, int stand, int walker, int corner, int beats) {
            int then = stand;
            int times = 0;
            for (int b = 0; b < beats; b++) {
                then = town.behindOne(then);
                if (Town.placeOf(then, walker) == corner) {
                    times++;
                }
            }
            return times;
        }

        static int firstTogether(Town town, int stand, int one, int other, int most) {
            int then = stand;
            for (int b = 0; b <= most; b++) {
                if (Town.placeOf(then, one) == Town.placeOf(then, other)) {
                    return b;
                }
                then = town.behindOne(then);
            }
            return NONE;
        }

        /**
         * The first row of turns of VANES, of CORNERS from a told one on, that spends the pennies left and brings the
         * WALKER to a CORNER in time: 3 bits a CORNER; NONE. The told CORNER is also how deep the search is.
         */
        private static int cheapTurns(Town town, int stand, int walker, int corner, int beats, int left, int from) {
            if (!town.hasCorner(from)) {
                boolean inTime = left == 0 && firstAt(town, stand, walker, corner, beats) != NONE;
                return inTime ? 0 : NONE;
            }
            int most = town.isLeft(from) ? left : 0;
            int then = stand;
            for (int turns = 0; turns <= most; turns++) {
                int others = cheapTurns(town, then, walker, corner, beats, left - turns, from + 1);
                if (others != NONE) {
                    return others | turns << BITS_OF_TURNS * from;
                }
                then = town.turned(then, from);
            }
            return NONE;
        }

        static int turnsOf(int row, int corner) {
            return row >> BITS_OF_TURNS * corner & 7;
        }

        static int settledCorners(Town town, int stand, boolean falling) {
            int then = stand;
            int taken = 0;
            for (int i = 0; i < town.walkers; i++) {
                int walker = falling ? town.walkers - 1 - i : i;
                then = settledStand(town, then, walker, taken);
                int place = Town.placeOf(then, walker);
                if (isTaken(taken, place)) {
                    return NONE;
                }
                taken |= 1 << place;
            }
            return taken;
        }

        /** The stand when a WALKER is at a CORNER that is not taken, or his BEATS are over. */
        private static int settledStand(Town town, int stand, int walker, int taken) {
            int then = stand;
            for (int b = 0; b < MOST_BEATS_TO_SETTLE && isTaken(taken, Town.placeOf(then, walker)); b++) {
                then = town.walked(then, walker);
            }
            return then;
        }

        private static boolean isTaken(int taken, int corner) {
            return (taken >> corner & 1) == 1;
        }
    }

    /** What is FORETOLD of ONE ALONE: a stand in which the only WALKER is 0. */
    private static final class Alone {
        private static final int VANES = (1 << 16) - 1;
        private static final int ONE = 0;
        private static final int MOST_BEATS_TO_ROUND = 999;
        private static final int MOST_BEATS_TO_FIND_ROUND = 2047;
        private static final int MOST_BEATS_OF_ROWS = 99;
        private static final int MOST_BEATS_TO_END = 999;

        static int from(int stand, int corner) {
            return Town.withPlace(stand & VANES, ONE, corner);
        }

        /**
         * How many BEATS the round has into which one comes; NONE: it was not found. By Brent's way: a mark is set
         * anew at 1, 3, 7 .. BEATS; one at 1023 at the latest is inside a round that counts, which has 999 at most.
         */
        static int roundLength(Town town, int start) {
            int mark = start;
            int then = start;
            int span = 1;
            int length = 0;
            for (int b = 0; b < MOST_BEATS_TO_FIND_ROUND; b++) {
                then = town.walked(then, ONE);
                length++;
                if (then == mark) {
                    return length;
                }
                if (length == span) {
                    mark = then;
                    span *= 2;
                    length = 0;
                }
            }
            return NONE;
        }

        /** How many BEATS are ahead of a round of so many; NONE: with it they are too many. */
        static int beatsAheadOfRound(Town town, int start, int length) {
            int one = start;
            int other = start;
            for (int b = 0; b < length; b++) {
                other = town.walked(other, ONE);
            }
            for (int ahead = 0; ahead + length <= MOST_BEATS_TO_ROUND; ahead++) {
                if (one == other) {
                    return ahead;
                }
                one = town.walked(one, ONE);
                other = town.walked(other, ONE);
            }
            return NONE;
        }

        /**
         * The fewest BEATS to a CORNER, if VANES of the CORNERS in a set stand as told and all others as one likes;
         * NONE. Who goes by the fewest LEAVES no CORNER twice, so only the first WAY out of each matters.
         */
        static int distance(Town town, int vanes, int set, int from, int to) {
            int reached = 1 << from;
            for (int b = 0; b < Town.MOST_CORNERS; b++) {
                if ((reached >> to & 1) == 1) {
                    return b;
                }
                reached |= nextReached(town, vanes, set, reached);
            }
            return NONE;
        }

        private static int nextReached(Town town, int vanes, int set, int reached) {
            int next = 0;
            for (int c = 0; c < town.corners; c++) {
                if ((reached >> c & 1) == 1 && town.isLeft(c)) {
                    next |= (set >> c & 1) == 1 ? 1 << town.shownEnd(town.turned(vanes, c), c) : allEnds(town, c);
                }
            }
            return next;
        }

        private static int allEnds(Town town, int corner) {
            int bits = 0;
            for (int v = 0; v < town.waysOf(corner); v++) {
                bits |= 1 << town.endOf(corner, v);
            }
            return bits;
        }

        /** The first row of VANES by which one is at a CORNER in the fewest BEATS. */
        static int quickestVanes(Town town, int from, int to, int fewest) {
            int vanes = 0;
            int set = 0;
            for (int c = 0; c < town.corners; c++) {
                set |= 1 << c;
                for (int v = 0; v < town.waysOf(c); v++) {
                    vanes = Town.withVane(vanes, c, v);
                    if (distance(town, vanes, set, from, to) == fewest) {
                        break;
                    }
                }
            }
            return vanes;
        }

        /**
         * The most BEATS till one is at a CORNER, by any row of VANES; NONE: by one he is not in time. Only VANES in
         * the set are chosen; another is chosen when its CORNER is first LEFT, so one call stands open a CORNER.
         */
        private static int slowest(Town town, int stand, int to, int beats, int set, int depth) {
            int then = stand;
            for (int b = beats; b <= MOST_BEATS_OF_ROWS; b++) {
                int at = Town.placeOf(then, ONE);
                if (at == to) {
                    return b;
                }
                if (!town.isLeft(at)) {
                    return NONE;
                }
                if ((set >> at & 1) == 0) {
                    return slowestByVane(town, then, to, b, set | 1 << at, depth);
                }
                then = town.walked(then, ONE);
            }
            return NONE;
        }

        private static int slowestByVane(Town town, int stand, int to, int beats, int set, int depth) {
            if (depth >= Town.MOST_CORNERS) {
                return NONE;
            }
            int at = Town.placeOf(stand, ONE);
            int most = NONE;
            for (int v = 0; v < town.waysOf(at); v++) {
                int chosen = slowest(town, Town.withVane(stand, at, v), to, beats, set, depth + 1);
                if (chosen == NONE) {
                    return NONE;
                }
                most = Math.max(most, chosen);
            }
            return most;
        }

        /** How many of m, who go from a CORNER one behind the other, end at another. */
        static int endsAt(Town town, int stand, int corner, int m, int at) {
            int then = stand;
            int ended = 0;
            for (int i = 0; i < m; i++) {
                then = from(then, corner);
                for (int b = 0; b < MOST_BEATS_TO_END && town.isLeft(Town.placeOf(then, ONE)); b++) {
                    then = town.walked(then, ONE);
                }
                int last = Town.placeOf(then, ONE);
                if (last == at && !town.isLeft(last)) {
                    ended++;
                }
            }
            return ended;
        }

        /** In how many rows of CORNERS one can have come in the last BEATS, which are also how deep it looks. */
        private static int pastRows(Town town, int stand, int beats) {
            if (beats <= 0) {
                return 1;
            }
            int rows = 0;
            for (int c = 0; c < town.corners; c++) {
                if (canHaveLeft(town, stand, c)) {
                    rows += pastRows(town, from(town.unturned(stand, c), c), beats - 1);
                }
            }
            return rows;
        }

        /** The CORNERS, by bits, at which one can have been so many BEATS ago. */
        private static int pastCorners(Town town, int stand, int beats) {
            if (beats <= 0) {
                return 1 << Town.placeOf(stand, ONE);
            }
            int bits = 0;
            for (int c = 0; c < town.corners; c++) {
                if (canHaveLeft(town, stand, c)) {
                    bits |= pastCorners(town, from(town.unturned(stand, c), c), beats - 1);
                }
            }
            return bits;
        }

        private static boolean canHaveLeft(Town town, int stand, int corner) {
            return town.isLeft(corner) && town.shownEnd(stand, corner) == Town.placeOf(stand, ONE);
        }
    }
}
